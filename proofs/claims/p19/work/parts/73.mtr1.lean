theorem sw3 {a b : Nat} {f k1 k2 k3 : Nat → Int32} (ha : a < 8) (hb : b < 8) (h1 : k1 = upd f 8 (f a)) (h2 : k2 = upd k1 a (k1 b)) (h3 : k3 = upd k2 b (k2 8)) : ∀ q, q < 8 → k3 q = f (swq a b q) := by
  intro q hq
  unfold swq
  rw [h3]
  by_cases e : q = b
  · subst e
    rw [pk_us, h2, pk_un (by omega), h1, pk_us]
    by_cases e2 : q = a
    · subst e2; rw [if_pos rfl]
    · rw [if_neg e2, if_pos rfl]
  · rw [pk_un e, h2]
    by_cases e2 : q = a
    · subst e2; rw [pk_us, h1, pk_un (by omega), if_pos rfl]
    · rw [pk_un e2, h1, pk_un (by omega), if_neg e2, if_neg e]
theorem EVS_sq {n sn a b : Nat} {dn : Int32} {K F W S5 : Nat → Nat} {kf ff wf stf k2 f2 w2 : Nat → Int32} (h : EVS n sn dn K F W S5 kf ff wf stf) (ha : a < n) (hb : b < n) (h1 : ∀ q, q < 8 → k2 q = kf (swq a b q)) (h2 : ∀ q, q < 8 → f2 q = ff (swq a b q)) (h3 : ∀ q, q < 8 → w2 q = wf (swq a b q)) : EVS n sn dn (fun q => K (swq a b q)) (fun q => F (swq a b q)) (fun q => W (swq a b q)) S5 k2 f2 w2 stf := by
  have hn := EVS_n h
  obtain ⟨⟨e1, e2, e3, e4⟩, r⟩ := h
  refine ⟨⟨e1, e2, e3, fun j hj => ?_⟩, r⟩
  rw [h1 j (by omega), h2 j (by omega), h3 j (by omega)]
  exact e4 _ (swq_lt ha hb hj)

set_option maxHeartbeats 1000000 in
set_option maxRecDepth 100000 in
/-- X12_moves -/
theorem c_X12_moves (l : Launch) (dC : Nat → ClassId) (dI : Nat → Nat → Nat) (aC : Nat → ClassId) (sz : Nat) (g0 : Nat) (m_refused : Nat) (m_kind : Nat) (m_figure : Nat) (m_weight : Nat) (m_got : Nat) (m_setting : Nat) (m_tape : Nat) (m_letter : Nat) (m_letterAt : Nat) (m_told : Nat) (m_kept : Nat) (m_price : Nat) (m_offer : Nat) (m_gets : Nat) (m_yes : Nat) (m_buys : Nat) (m_ends : Nat) (m_carried : Nat) (m_row : Nat) (m_keptRow : Nat) (m_likeGets : Nat) (m_likePrice : Nat) (m_ahead : Nat) (men : Int32) (msy : Int32) (mdn : Int32) (tp : Int32) (mat : Int32) (stm : Int32) (him : Int32) (ki : Int32) (crs : Int32) (rm : Int32) (kf : Nat → Int32) (ff : Nat → Int32) (wf : Nat → Int32) (a : Nat) (b : Nat) (hab : a < 9 ∧ b < 9) : Met l yX12_moves (wW yX12_moves cX12_moves 3 (none : Option FieldType)) ({ frames := 0, cells := 0, slots := 0, locals := 0 } : Room) (va_Pc [Value.ref g0, Value.int (nI a), Value.int (nI b)] (fun U => U.heap.size = sz ∧ va_P (dC, dI) classes [oX12 g0 m_refused m_kind m_figure m_weight m_got m_setting men msy mdn m_tape m_letter m_letterAt m_told tp mat stm m_kept him ki crs m_price m_offer m_gets m_yes m_buys m_ends m_carried m_row rm m_keptRow m_likeGets m_likePrice m_ahead, cI aC m_kind 9 kf, cI aC m_figure 9 ff, cI aC m_weight 9 wf] U.heap ∧ va_K (dC, dI) classes (TY aC) U ∧ va_D (fun _ => True) [oX12 g0 m_refused m_kind m_figure m_weight m_got m_setting men msy mdn m_tape m_letter m_letterAt m_told tp mat stm m_kept him ki crs m_price m_offer m_gets m_yes m_buys m_ends m_carried m_row rm m_keptRow m_likeGets m_likePrice m_ahead, cI aC m_kind 9 kf, cI aC m_figure 9 ff, cI aC m_weight 9 wf] ∧ NX U)) (va_Qv (fun (u : (Nat → Int32) × (Nat → Int32) × (Nat → Int32)) => match u with | (kf2, ff2, wf2) => kf2 = upd kf b (kf a) ∧ ff2 = upd ff b (ff a) ∧ wf2 = upd wf b (wf a)) (fun (u : (Nat → Int32) × (Nat → Int32) × (Nat → Int32)) (t : State) => match u with | (kf2, ff2, wf2) => va_P (dC, dI) classes [oX12 g0 m_refused m_kind m_figure m_weight m_got m_setting men msy mdn m_tape m_letter m_letterAt m_told tp mat stm m_kept him ki crs m_price m_offer m_gets m_yes m_buys m_ends m_carried m_row rm m_keptRow m_likeGets m_likePrice m_ahead, cI aC m_kind 9 kf2, cI aC m_figure 9 ff2, cI aC m_weight 9 wf2] t.heap ∧ va_K (dC, dI) classes (TY aC) t ∧ va_D (va_A [oX12 g0 m_refused m_kind m_figure m_weight m_got m_setting men msy mdn m_tape m_letter m_letterAt m_told tp mat stm m_kept him ki crs m_price m_offer m_gets m_yes m_buys m_ends m_carried m_row rm m_keptRow m_likeGets m_likePrice m_ahead, cI aC m_kind 9 kf, cI aC m_figure 9 ff, cI aC m_weight 9 wf] sz) [oX12 g0 m_refused m_kind m_figure m_weight m_got m_setting men msy mdn m_tape m_letter m_letterAt m_told tp mat stm m_kept him ki crs m_price m_offer m_gets m_yes m_buys m_ends m_carried m_row rm m_keptRow m_likeGets m_likePrice m_ahead, cI aC m_kind 9 kf2, cI aC m_figure 9 ff2, cI aC m_weight 9 wf2]) (va_A [oX12 g0 m_refused m_kind m_figure m_weight m_got m_setting men msy mdn m_tape m_letter m_letterAt m_told tp mat stm m_kept him ki crs m_price m_offer m_gets m_yes m_buys m_ends m_carried m_row rm m_keptRow m_likeGets m_likePrice m_ahead, cI aC m_kind 9 kf, cI aC m_figure 9 ff, cI aC m_weight 9 wf] sz)) 0 0 (va_A [oX12 g0 m_refused m_kind m_figure m_weight m_got m_setting men msy mdn m_tape m_letter m_letterAt m_told tp mat stm m_kept him ki crs m_price m_offer m_gets m_yes m_buys m_ends m_carried m_row rm m_keptRow m_likeGets m_likePrice m_ahead, cI aC m_kind 9 kf, cI aC m_figure 9 ff, cI aC m_weight 9 wf] sz) := by
  refine Met.ofW (cc := cX12_moves) (maxL := 3) (ret := (none : Option FieldType)) (by decide) rfl ?_
  intro p e s m args below meth c s₁ B hml hv
  obtain ⟨rfl, hsz, hP, hK, hD0, hN⟩ := hv
  have hx := B.exec
  have hb := B.bytes
  have hr := B.returns
  have hts0 := atoms_spec (ws := (wW yX12_moves cX12_moves 3 (none : Option FieldType))) B.pre
  have hts : ∀ w9 ∈ lw_G, w9.before ([Value.ref g0, Value.int (nI a), Value.int (nI b)] : List Value).toArray s = true := fun w9 h9 => hts0 w9 (List.mem_cons_of_mem _ h9)
  have hown : s.vm.findClass RX12 = some m.cls := findClass_of_methodNamed (x := yX12_moves) B.named
  have hlocks := B.notSynchronized
  subst hsz
  have hD := hD0.self (sz := s.heap.size)
  generalize hAe : va_A [oX12 g0 m_refused m_kind m_figure m_weight m_got m_setting men msy mdn m_tape m_letter m_letterAt m_told tp mat stm m_kept him ki crs m_price m_offer m_gets m_yes m_buys m_ends m_carried m_row rm m_keptRow m_likeGets m_likePrice m_ahead, cI aC m_kind 9 kf, cI aC m_figure 9 ff, cI aC m_weight 9 wf] s.heap.size = A at hD ⊢
  have hA : ∀ q : Nat, s.heap.size ≤ q → A q := fun q h => by rw [← hAe]; exact Or.inr h
  obtain ⟨H, hHe⟩ : ∃ H : Heap, H = s.heap := ⟨_, rfl⟩
  have hS : va_S A s.heap H [] := by rw [hHe]; exact va_S.rf
  have hP : va_P (dC, dI) classes [oX12 g0 m_refused m_kind m_figure m_weight m_got m_setting men msy mdn m_tape m_letter m_letterAt m_told tp mat stm m_kept him ki crs m_price m_offer m_gets m_yes m_buys m_ends m_carried m_row rm m_keptRow m_likeGets m_likePrice m_ahead, cI aC m_kind 9 kf, cI aC m_figure 9 ff, cI aC m_weight 9 wf] H := by rw [hHe]; exact hP
  have hl := lv_entry ([Value.ref g0, Value.int (nI a), Value.int (nI b)]) (n := 3) (Nat.le_of_ble_eq_true rfl)
  rw [lg_entry_eq]
  generalize (lg_sl ([Value.ref g0, Value.int (nI a), Value.int (nI b)]) ++ List.replicate (3 - (lg_sl ([Value.ref g0, Value.int (nI a), Value.int (nI b)])).length) Slot.unset).toArray = ls at hl ⊢
  have hl : lv_has ls 3 [(0, Value.ref g0), (1, Value.int (nI a)), (2, Value.int (nI b))] := hl
  rw [← hHe]
  refine lv_aload_n hx hb dX12_moves_0 rfl (lv_at hl 0 rfl) ?_
  refine va_get (D := (dC, dI)) (ci := 12) (v := Value.ref m_kind) (C := RX12) (T := TX12) (N := 33) hx hb hts inX12 hown hK hP 0 rfl rfl 1 (by decide) (hts _ (gw kw_718 rfl)) (fun _ h9 => h9) rfl dX12_moves_1 ?_
  refine lv_iload_n hx hb dX12_moves_4 rfl (lv_at hl 2 rfl) ?_
  refine lv_aload_n hx hb dX12_moves_5 rfl (lv_at hl 0 rfl) ?_
  refine va_get (D := (dC, dI)) (ci := 12) (v := Value.ref m_kind) (C := RX12) (T := TX12) (N := 33) hx hb hts inX12 hown hK hP 0 rfl rfl 1 (by decide) (hts _ (gw kw_718 rfl)) (fun _ h9 => h9) rfl dX12_moves_6 ?_
  refine lv_iload_n hx hb dX12_moves_9 rfl (lv_at hl 1 rfl) ?_
  have h_1 : vp_in (nI a) 9 := vp_in_nI (by omega) (by omega)
  refine va_iald hx hb hK hP 1 0 rfl rfl h_1 dX12_moves_10 ?_
  refine lv_topi (fun x_2 e_2 => ?_)
  have h_3 : vp_in (nI b) 9 := vp_in_nI (by omega) (by omega)
  refine va_iast hx hb hK hP hD hS 1 0 rfl rfl h_3 dX12_moves_11 (fun H locs hP hD hS => ?_)
  obtain ⟨f_4, e_f_4⟩ : ∃ y : Nat → Int32, y = upd kf (nI b : Int32).toNatClampNeg x_2 := ⟨_, rfl⟩
  have hpd9 : PDx (dC, dI) classes A H [oX12 g0 m_refused m_kind m_figure m_weight m_got m_setting men msy mdn m_tape m_letter m_letterAt m_told tp mat stm m_kept him ki crs m_price m_offer m_gets m_yes m_buys m_ends m_carried m_row rm m_keptRow m_likeGets m_likePrice m_ahead, cI aC m_kind 9 f_4, cI aC m_figure 9 ff, cI aC m_weight 9 wf] := by rw [e_f_4]; exact ⟨hP, hD⟩
  have hP := hpd9.1
  have hD := hpd9.2
  clear hpd9
  refine lv_aload_n hx hb dX12_moves_12 rfl (lv_at hl 0 rfl) ?_
  refine va_get (D := (dC, dI)) (ci := 12) (v := Value.ref m_figure) (C := RX12) (T := TX12) (N := 33) hx hb hts inX12 hown hK hP 0 rfl rfl 2 (by decide) (hts _ (gw kw_719 rfl)) (fun _ h9 => h9) rfl dX12_moves_13 ?_
  refine lv_iload_n hx hb dX12_moves_16 rfl (lv_at hl 2 rfl) ?_
  refine lv_aload_n hx hb dX12_moves_17 rfl (lv_at hl 0 rfl) ?_
  refine va_get (D := (dC, dI)) (ci := 12) (v := Value.ref m_figure) (C := RX12) (T := TX12) (N := 33) hx hb hts inX12 hown hK hP 0 rfl rfl 2 (by decide) (hts _ (gw kw_719 rfl)) (fun _ h9 => h9) rfl dX12_moves_18 ?_
  refine lv_iload_n hx hb dX12_moves_21 rfl (lv_at hl 1 rfl) ?_
  have h_5 : vp_in (nI a) 9 := vp_in_nI (by omega) (by omega)
  refine va_iald hx hb hK hP 2 0 rfl rfl h_5 dX12_moves_22 ?_
  refine lv_topi (fun x_6 e_6 => ?_)
  have h_7 : vp_in (nI b) 9 := vp_in_nI (by omega) (by omega)
  refine va_iast hx hb hK hP hD hS 2 0 rfl rfl h_7 dX12_moves_23 (fun H locs hP hD hS => ?_)
  obtain ⟨f_8, e_f_8⟩ : ∃ y : Nat → Int32, y = upd ff (nI b : Int32).toNatClampNeg x_6 := ⟨_, rfl⟩
  have hpd9 : PDx (dC, dI) classes A H [oX12 g0 m_refused m_kind m_figure m_weight m_got m_setting men msy mdn m_tape m_letter m_letterAt m_told tp mat stm m_kept him ki crs m_price m_offer m_gets m_yes m_buys m_ends m_carried m_row rm m_keptRow m_likeGets m_likePrice m_ahead, cI aC m_kind 9 f_4, cI aC m_figure 9 f_8, cI aC m_weight 9 wf] := by rw [e_f_8]; exact ⟨hP, hD⟩
  have hP := hpd9.1
  have hD := hpd9.2
  clear hpd9
  refine lv_aload_n hx hb dX12_moves_24 rfl (lv_at hl 0 rfl) ?_
  refine va_get (D := (dC, dI)) (ci := 12) (v := Value.ref m_weight) (C := RX12) (T := TX12) (N := 33) hx hb hts inX12 hown hK hP 0 rfl rfl 3 (by decide) (hts _ (gw kw_720 rfl)) (fun _ h9 => h9) rfl dX12_moves_25 ?_
  refine lv_iload_n hx hb dX12_moves_28 rfl (lv_at hl 2 rfl) ?_
  refine lv_aload_n hx hb dX12_moves_29 rfl (lv_at hl 0 rfl) ?_
  refine va_get (D := (dC, dI)) (ci := 12) (v := Value.ref m_weight) (C := RX12) (T := TX12) (N := 33) hx hb hts inX12 hown hK hP 0 rfl rfl 3 (by decide) (hts _ (gw kw_720 rfl)) (fun _ h9 => h9) rfl dX12_moves_30 ?_
  refine lv_iload_n hx hb dX12_moves_33 rfl (lv_at hl 1 rfl) ?_
  have h_9 : vp_in (nI a) 9 := vp_in_nI (by omega) (by omega)
  refine va_iald hx hb hK hP 3 0 rfl rfl h_9 dX12_moves_34 ?_
  refine lv_topi (fun x_10 e_10 => ?_)
  have h_11 : vp_in (nI b) 9 := vp_in_nI (by omega) (by omega)
  refine va_iast hx hb hK hP hD hS 3 0 rfl rfl h_11 dX12_moves_35 (fun H locs hP hD hS => ?_)
  obtain ⟨f_12, e_f_12⟩ : ∃ y : Nat → Int32, y = upd wf (nI b : Int32).toNatClampNeg x_10 := ⟨_, rfl⟩
  have hpd9 : PDx (dC, dI) classes A H [oX12 g0 m_refused m_kind m_figure m_weight m_got m_setting men msy mdn m_tape m_letter m_letterAt m_told tp mat stm m_kept him ki crs m_price m_offer m_gets m_yes m_buys m_ends m_carried m_row rm m_keptRow m_likeGets m_likePrice m_ahead, cI aC m_kind 9 f_4, cI aC m_figure 9 f_8, cI aC m_weight 9 f_12] := by rw [e_f_12]; exact ⟨hP, hD⟩
  have hP := hpd9.1
  have hD := hpd9.2
  clear hpd9
  have hpd9 := pd_N (cx := [oX12 g0 m_refused m_kind m_figure m_weight m_got m_setting men msy mdn m_tape m_letter m_letterAt m_told tp mat stm m_kept him ki crs m_price m_offer m_gets m_yes m_buys m_ends m_carried m_row rm m_keptRow m_likeGets m_likePrice m_ahead, cI aC m_kind 9 f_4, cI aC m_figure 9 f_8, cI aC m_weight 9 f_12]) hP hD [0, 1, 2, 3] (by decide) rfl
  have hP9 := hpd9.1
  have hD9 := hpd9.2
  refine W.widen (k := 0) (n := 0) (by omega) (by omega) ?_
  exact W.vret hx hb hr (fun t ht hW => ⟨⟨(f_4, f_8, f_12), rfl, ⟨by subst e_f_12; subst e_10; subst e_f_8; subst e_6; subst e_f_4; subst e_2; rw [nI_clamp (by omega), nI_clamp (by omega)], by subst e_f_12; subst e_10; subst e_f_8; subst e_6; subst e_f_4; subst e_2; rw [nI_clamp (by omega), nI_clamp (by omega)], by subst e_f_12; subst e_10; subst e_f_8; subst e_6; subst e_f_4; subst e_2; rw [nI_clamp (by omega), nI_clamp (by omega)]⟩, by rw [ht]; exact hP9, va_K.moved hW.alike hK, hD9⟩, hS.F ht⟩) hS.2.2 dX12_moves_36

set_option maxHeartbeats 1000000 in
set_option maxRecDepth 100000 in
/-- X12_swaps -/
theorem c_X12_swaps (l : Launch) (dC : Nat → ClassId) (dI : Nat → Nat → Nat) (aC : Nat → ClassId) (sz : Nat) (g0 : Nat) (m_refused : Nat) (m_kind : Nat) (m_figure : Nat) (m_weight : Nat) (m_got : Nat) (m_setting : Nat) (m_tape : Nat) (m_letter : Nat) (m_letterAt : Nat) (m_told : Nat) (m_kept : Nat) (m_price : Nat) (m_offer : Nat) (m_gets : Nat) (m_yes : Nat) (m_buys : Nat) (m_ends : Nat) (m_carried : Nat) (m_row : Nat) (m_keptRow : Nat) (m_likeGets : Nat) (m_likePrice : Nat) (m_ahead : Nat) (men : Int32) (msy : Int32) (mdn : Int32) (tp : Int32) (mat : Int32) (stm : Int32) (him : Int32) (ki : Int32) (crs : Int32) (rm : Int32) (kf : Nat → Int32) (ff : Nat → Int32) (wf : Nat → Int32) (a : Nat) (b : Nat) (hab : a < 8 ∧ b < 8) : Met l yX12_swaps (wW yX12_swaps cX12_swaps 3 (none : Option FieldType)) ({ frames := 1, cells := 0, slots := 0, locals := 22 } : Room) (va_Pc [Value.ref g0, Value.int (nI a), Value.int (nI b)] (fun U => U.heap.size = sz ∧ va_P (dC, dI) classes [oX12 g0 m_refused m_kind m_figure m_weight m_got m_setting men msy mdn m_tape m_letter m_letterAt m_told tp mat stm m_kept him ki crs m_price m_offer m_gets m_yes m_buys m_ends m_carried m_row rm m_keptRow m_likeGets m_likePrice m_ahead, cI aC m_kind 9 kf, cI aC m_figure 9 ff, cI aC m_weight 9 wf] U.heap ∧ va_K (dC, dI) classes (TY aC) U ∧ va_D (fun _ => True) [oX12 g0 m_refused m_kind m_figure m_weight m_got m_setting men msy mdn m_tape m_letter m_letterAt m_told tp mat stm m_kept him ki crs m_price m_offer m_gets m_yes m_buys m_ends m_carried m_row rm m_keptRow m_likeGets m_likePrice m_ahead, cI aC m_kind 9 kf, cI aC m_figure 9 ff, cI aC m_weight 9 wf] ∧ NX U)) (va_Qv (fun (u : (Nat → Int32) × (Nat → Int32) × (Nat → Int32)) => match u with | (kf2, ff2, wf2) => (∀ q, q < 8 → kf2 q = kf (swq a b q)) ∧ (∀ q, q < 8 → ff2 q = ff (swq a b q)) ∧ (∀ q, q < 8 → wf2 q = wf (swq a b q))) (fun (u : (Nat → Int32) × (Nat → Int32) × (Nat → Int32)) (t : State) => match u with | (kf2, ff2, wf2) => va_P (dC, dI) classes [oX12 g0 m_refused m_kind m_figure m_weight m_got m_setting men msy mdn m_tape m_letter m_letterAt m_told tp mat stm m_kept him ki crs m_price m_offer m_gets m_yes m_buys m_ends m_carried m_row rm m_keptRow m_likeGets m_likePrice m_ahead, cI aC m_kind 9 kf2, cI aC m_figure 9 ff2, cI aC m_weight 9 wf2] t.heap ∧ va_K (dC, dI) classes (TY aC) t ∧ va_D (va_A [oX12 g0 m_refused m_kind m_figure m_weight m_got m_setting men msy mdn m_tape m_letter m_letterAt m_told tp mat stm m_kept him ki crs m_price m_offer m_gets m_yes m_buys m_ends m_carried m_row rm m_keptRow m_likeGets m_likePrice m_ahead, cI aC m_kind 9 kf, cI aC m_figure 9 ff, cI aC m_weight 9 wf] sz) [oX12 g0 m_refused m_kind m_figure m_weight m_got m_setting men msy mdn m_tape m_letter m_letterAt m_told tp mat stm m_kept him ki crs m_price m_offer m_gets m_yes m_buys m_ends m_carried m_row rm m_keptRow m_likeGets m_likePrice m_ahead, cI aC m_kind 9 kf2, cI aC m_figure 9 ff2, cI aC m_weight 9 wf2]) (va_A [oX12 g0 m_refused m_kind m_figure m_weight m_got m_setting men msy mdn m_tape m_letter m_letterAt m_told tp mat stm m_kept him ki crs m_price m_offer m_gets m_yes m_buys m_ends m_carried m_row rm m_keptRow m_likeGets m_likePrice m_ahead, cI aC m_kind 9 kf, cI aC m_figure 9 ff, cI aC m_weight 9 wf] sz)) 0 0 (va_A [oX12 g0 m_refused m_kind m_figure m_weight m_got m_setting men msy mdn m_tape m_letter m_letterAt m_told tp mat stm m_kept him ki crs m_price m_offer m_gets m_yes m_buys m_ends m_carried m_row rm m_keptRow m_likeGets m_likePrice m_ahead, cI aC m_kind 9 kf, cI aC m_figure 9 ff, cI aC m_weight 9 wf] sz) := by
  refine Met.ofW (cc := cX12_swaps) (maxL := 3) (ret := (none : Option FieldType)) (by decide) rfl ?_
  intro p e s m args below meth c s₁ B hml hv
  obtain ⟨rfl, hsz, hP, hK, hD0, hN⟩ := hv
  have hx := B.exec
  have hb := B.bytes
  have hr := B.returns
  have hts0 := atoms_spec (ws := (wW yX12_swaps cX12_swaps 3 (none : Option FieldType))) B.pre
  have hts : ∀ w9 ∈ lw_G, w9.before ([Value.ref g0, Value.int (nI a), Value.int (nI b)] : List Value).toArray s = true := fun w9 h9 => hts0 w9 (List.mem_cons_of_mem _ h9)
  have hown : s.vm.findClass RX12 = some m.cls := findClass_of_methodNamed (x := yX12_swaps) B.named
  have hlocks := B.notSynchronized
  subst hsz
  have hD := hD0.self (sz := s.heap.size)
  generalize hAe : va_A [oX12 g0 m_refused m_kind m_figure m_weight m_got m_setting men msy mdn m_tape m_letter m_letterAt m_told tp mat stm m_kept him ki crs m_price m_offer m_gets m_yes m_buys m_ends m_carried m_row rm m_keptRow m_likeGets m_likePrice m_ahead, cI aC m_kind 9 kf, cI aC m_figure 9 ff, cI aC m_weight 9 wf] s.heap.size = A at hD ⊢
  have hA : ∀ q : Nat, s.heap.size ≤ q → A q := fun q h => by rw [← hAe]; exact Or.inr h
  obtain ⟨H, hHe⟩ : ∃ H : Heap, H = s.heap := ⟨_, rfl⟩
  have hS : va_S A s.heap H [] := by rw [hHe]; exact va_S.rf
  have hP : va_P (dC, dI) classes [oX12 g0 m_refused m_kind m_figure m_weight m_got m_setting men msy mdn m_tape m_letter m_letterAt m_told tp mat stm m_kept him ki crs m_price m_offer m_gets m_yes m_buys m_ends m_carried m_row rm m_keptRow m_likeGets m_likePrice m_ahead, cI aC m_kind 9 kf, cI aC m_figure 9 ff, cI aC m_weight 9 wf] H := by rw [hHe]; exact hP
  have hl := lv_entry ([Value.ref g0, Value.int (nI a), Value.int (nI b)]) (n := 3) (Nat.le_of_ble_eq_true rfl)
  rw [lg_entry_eq]
  generalize (lg_sl ([Value.ref g0, Value.int (nI a), Value.int (nI b)]) ++ List.replicate (3 - (lg_sl ([Value.ref g0, Value.int (nI a), Value.int (nI b)])).length) Slot.unset).toArray = ls at hl ⊢
  have hl : lv_has ls 3 [(0, Value.ref g0), (1, Value.int (nI a)), (2, Value.int (nI b))] := hl
  rw [← hHe]
  refine lv_aload_n hx hb dX12_swaps_0 rfl (lv_at hl 0 rfl) ?_
  refine lv_iload_n hx hb dX12_swaps_1 rfl (lv_at hl 1 rfl) ?_
  refine lv_bipush (v := 8) hx hb dX12_swaps_2 (by decide) ?_
  refine lv_topi (fun x_1 e_1 => ?_)
  have h9 : x_1 = nI 8 := by rw [e_1]; rfl
  subst h9
  have hpd9 := pdf_N (cx := [oX12 g0 m_refused m_kind m_figure m_weight m_got m_setting men msy mdn m_tape m_letter m_letterAt m_told tp mat stm m_kept him ki crs m_price m_offer m_gets m_yes m_buys m_ends m_carried m_row rm m_keptRow m_likeGets m_likePrice m_ahead, cI aC m_kind 9 kf, cI aC m_figure 9 ff, cI aC m_weight 9 wf]) hP hD hS hA [0, 1, 2, 3] (by decide) rfl
  have hPc := hpd9.1
  have hDc := hpd9.2.1
  have hFc := hpd9.2.2
  clear hpd9
  refine va_callv (va_runV (As := [Value.int (nI a), Value.int (nI 8)]) (rest := []) ⟨hx, hb, hml, hown, hts⟩ (c_X12_moves l dC dI aC H.size g0 m_refused m_kind m_figure m_weight m_got m_setting m_tape m_letter m_letterAt m_told m_kept m_price m_offer m_gets m_yes m_buys m_ends m_carried m_row m_keptRow m_likeGets m_likePrice m_ahead men msy mdn tp mat stm him ki crs rm kf ff wf a 8 (by omega)) ⟨(callB_of 2 hts (gG kw_1050) rfl rfl rfl (hts _ (gw kw_13 rfl)) (hts _ (gw kw_1047 rfl)) hd_X12_moves ⟨Nat.le_of_ble_eq_true rfl, Nat.le_of_ble_eq_true rfl⟩), (hts _ (gw kw_1049 rfl)), (hts _ (gw ks_65 rfl))⟩ ⟨fb_std, va_recv (q := (RX12, TX12, 33)) hK hPc (ci := 12) (q0 := 0) rfl rfl, pre_std hPc hK hDc hN⟩ rfl rfl hl.1 rfl (lv_room (Nat.le_of_ble_eq_true rfl)) dX12_swaps_4 ⟨Nat.le_of_ble_eq_true rfl, Nat.le_of_ble_eq_true rfl⟩) hS (fun q _ h => hFc q h) hFc (fun u9 t9 H1 locs ht hvm hw_2 hB hz1 hk1 hS => ?_)
  obtain ⟨u_3, u_4, u_5⟩ := u9
  obtain ⟨hP1, hK1, hD1⟩ := hB
  rw [ht] at hP1
  clear hK1
  try dsimp only at hw_2
  have hpd9 : PDx (dC, dI) classes A H1 [oX12 g0 m_refused m_kind m_figure m_weight m_got m_setting men msy mdn m_tape m_letter m_letterAt m_told tp mat stm m_kept him ki crs m_price m_offer m_gets m_yes m_buys m_ends m_carried m_row rm m_keptRow m_likeGets m_likePrice m_ahead, cI aC m_kind 9 u_3, cI aC m_figure 9 u_4, cI aC m_weight 9 u_5] := jn_N (wr := []) hFc hk1 hP1 hD1 hP hD [0, 1, 2, 3] [] rfl rfl (by decide) (by decide)
  have hP := hpd9.1
  have hD := hpd9.2
  clear hpd9
  generalize H1 = H at hP hS ⊢
  clear hPc hDc hFc hz1 hk1 hP1 hD1 ht hvm
  have h1m := hw_2
  refine lv_aload_n hx hb dX12_swaps_7 rfl (lv_at hl 0 rfl) ?_
  refine lv_iload_n hx hb dX12_swaps_8 rfl (lv_at hl 2 rfl) ?_
  refine lv_iload_n hx hb dX12_swaps_9 rfl (lv_at hl 1 rfl) ?_
  have hpd9 := pdf_N (cx := [oX12 g0 m_refused m_kind m_figure m_weight m_got m_setting men msy mdn m_tape m_letter m_letterAt m_told tp mat stm m_kept him ki crs m_price m_offer m_gets m_yes m_buys m_ends m_carried m_row rm m_keptRow m_likeGets m_likePrice m_ahead, cI aC m_kind 9 u_3, cI aC m_figure 9 u_4, cI aC m_weight 9 u_5]) hP hD hS hA [0, 1, 2, 3] (by decide) rfl
  have hPc := hpd9.1
  have hDc := hpd9.2.1
  have hFc := hpd9.2.2
  clear hpd9
  refine va_callv (va_runV (As := [Value.int (nI b), Value.int (nI a)]) (rest := []) ⟨hx, hb, hml, hown, hts⟩ (c_X12_moves l dC dI aC H.size g0 m_refused m_kind m_figure m_weight m_got m_setting m_tape m_letter m_letterAt m_told m_kept m_price m_offer m_gets m_yes m_buys m_ends m_carried m_row m_keptRow m_likeGets m_likePrice m_ahead men msy mdn tp mat stm him ki crs rm u_3 u_4 u_5 b a (by omega)) ⟨(callB_of 2 hts (gG kw_1050) rfl rfl rfl (hts _ (gw kw_13 rfl)) (hts _ (gw kw_1047 rfl)) hd_X12_moves ⟨Nat.le_of_ble_eq_true rfl, Nat.le_of_ble_eq_true rfl⟩), (hts _ (gw kw_1049 rfl)), (hts _ (gw ks_65 rfl))⟩ ⟨fb_std, va_recv (q := (RX12, TX12, 33)) hK hPc (ci := 12) (q0 := 0) rfl rfl, pre_std hPc hK hDc hN⟩ rfl rfl hl.1 rfl (lv_room (Nat.le_of_ble_eq_true rfl)) dX12_swaps_10 ⟨Nat.le_of_ble_eq_true rfl, Nat.le_of_ble_eq_true rfl⟩) hS (fun q _ h => hFc q h) hFc (fun u9 t9 H1 locs ht hvm hw_6 hB hz1 hk1 hS => ?_)
  obtain ⟨u_7, u_8, u_9⟩ := u9
  obtain ⟨hP1, hK1, hD1⟩ := hB
  rw [ht] at hP1
  clear hK1
  try dsimp only at hw_6
  have hpd9 : PDx (dC, dI) classes A H1 [oX12 g0 m_refused m_kind m_figure m_weight m_got m_setting men msy mdn m_tape m_letter m_letterAt m_told tp mat stm m_kept him ki crs m_price m_offer m_gets m_yes m_buys m_ends m_carried m_row rm m_keptRow m_likeGets m_likePrice m_ahead, cI aC m_kind 9 u_7, cI aC m_figure 9 u_8, cI aC m_weight 9 u_9] := jn_N (wr := []) hFc hk1 hP1 hD1 hP hD [0, 1, 2, 3] [] rfl rfl (by decide) (by decide)
  have hP := hpd9.1
  have hD := hpd9.2
  clear hpd9
  generalize H1 = H at hP hS ⊢
  clear hPc hDc hFc hz1 hk1 hP1 hD1 ht hvm
  have h2m := hw_6
  refine lv_aload_n hx hb dX12_swaps_13 rfl (lv_at hl 0 rfl) ?_
  refine lv_bipush (v := 8) hx hb dX12_swaps_14 (by decide) ?_
  refine lv_topi (fun x_10 e_10 => ?_)
  have h9 : x_10 = nI 8 := by rw [e_10]; rfl
  subst h9
  refine lv_iload_n hx hb dX12_swaps_16 rfl (lv_at hl 2 rfl) ?_
  have hpd9 := pdf_N (cx := [oX12 g0 m_refused m_kind m_figure m_weight m_got m_setting men msy mdn m_tape m_letter m_letterAt m_told tp mat stm m_kept him ki crs m_price m_offer m_gets m_yes m_buys m_ends m_carried m_row rm m_keptRow m_likeGets m_likePrice m_ahead, cI aC m_kind 9 u_7, cI aC m_figure 9 u_8, cI aC m_weight 9 u_9]) hP hD hS hA [0, 1, 2, 3] (by decide) rfl
  have hPc := hpd9.1
  have hDc := hpd9.2.1
  have hFc := hpd9.2.2
  clear hpd9
  refine va_callv (va_runV (As := [Value.int (nI 8), Value.int (nI b)]) (rest := []) ⟨hx, hb, hml, hown, hts⟩ (c_X12_moves l dC dI aC H.size g0 m_refused m_kind m_figure m_weight m_got m_setting m_tape m_letter m_letterAt m_told m_kept m_price m_offer m_gets m_yes m_buys m_ends m_carried m_row m_keptRow m_likeGets m_likePrice m_ahead men msy mdn tp mat stm him ki crs rm u_7 u_8 u_9 8 b (by omega)) ⟨(callB_of 2 hts (gG kw_1050) rfl rfl rfl (hts _ (gw kw_13 rfl)) (hts _ (gw kw_1047 rfl)) hd_X12_moves ⟨Nat.le_of_ble_eq_true rfl, Nat.le_of_ble_eq_true rfl⟩), (hts _ (gw kw_1049 rfl)), (hts _ (gw ks_65 rfl))⟩ ⟨fb_std, va_recv (q := (RX12, TX12, 33)) hK hPc (ci := 12) (q0 := 0) rfl rfl, pre_std hPc hK hDc hN⟩ rfl rfl hl.1 rfl (lv_room (Nat.le_of_ble_eq_true rfl)) dX12_swaps_17 ⟨Nat.le_of_ble_eq_true rfl, Nat.le_of_ble_eq_true rfl⟩) hS (fun q _ h => hFc q h) hFc (fun u9 t9 H1 locs ht hvm hw_11 hB hz1 hk1 hS => ?_)
  obtain ⟨u_12, u_13, u_14⟩ := u9
  obtain ⟨hP1, hK1, hD1⟩ := hB
  rw [ht] at hP1
  clear hK1
  try dsimp only at hw_11
  have hpd9 : PDx (dC, dI) classes A H1 [oX12 g0 m_refused m_kind m_figure m_weight m_got m_setting men msy mdn m_tape m_letter m_letterAt m_told tp mat stm m_kept him ki crs m_price m_offer m_gets m_yes m_buys m_ends m_carried m_row rm m_keptRow m_likeGets m_likePrice m_ahead, cI aC m_kind 9 u_12, cI aC m_figure 9 u_13, cI aC m_weight 9 u_14] := jn_N (wr := []) hFc hk1 hP1 hD1 hP hD [0, 1, 2, 3] [] rfl rfl (by decide) (by decide)
  have hP := hpd9.1
  have hD := hpd9.2
  clear hpd9
  generalize H1 = H at hP hS ⊢
  clear hPc hDc hFc hz1 hk1 hP1 hD1 ht hvm
  have h3m := hw_11
  have hpd9 := pd_N (cx := [oX12 g0 m_refused m_kind m_figure m_weight m_got m_setting men msy mdn m_tape m_letter m_letterAt m_told tp mat stm m_kept him ki crs m_price m_offer m_gets m_yes m_buys m_ends m_carried m_row rm m_keptRow m_likeGets m_likePrice m_ahead, cI aC m_kind 9 u_12, cI aC m_figure 9 u_13, cI aC m_weight 9 u_14]) hP hD [0, 1, 2, 3] (by decide) rfl
  have hP9 := hpd9.1
  have hD9 := hpd9.2
  refine W.widen (k := 0) (n := 0) (by omega) (by omega) ?_
  exact W.vret hx hb hr (fun t ht hW => ⟨⟨(u_12, u_13, u_14), rfl, ⟨sw3 hab.1 hab.2 h1m.1 h2m.1 h3m.1, sw3 hab.1 hab.2 h1m.2.1 h2m.2.1 h3m.2.1, sw3 hab.1 hab.2 h1m.2.2 h2m.2.2 h3m.2.2⟩, by rw [ht]; exact hP9, va_K.moved hW.alike hK, hD9⟩, hS.F ht⟩) hS.2.2 dX12_swaps_20

set_option maxHeartbeats 1000000 in
set_option maxRecDepth 100000 in
/-- X12_swap -/
theorem c_X12_swap (l : Launch) (dC : Nat → ClassId) (dI : Nat → Nat → Nat) (aC : Nat → ClassId) (sz : Nat) (g0 : Nat) (m_refused : Nat) (m_kind : Nat) (m_figure : Nat) (m_weight : Nat) (m_got : Nat) (m_setting : Nat) (m_tape : Nat) (m_letter : Nat) (m_letterAt : Nat) (m_told : Nat) (m_kept : Nat) (m_price : Nat) (m_offer : Nat) (m_gets : Nat) (m_yes : Nat) (m_buys : Nat) (m_ends : Nat) (m_carried : Nat) (m_row : Nat) (m_keptRow : Nat) (m_likeGets : Nat) (m_likePrice : Nat) (m_ahead : Nat) (tp : Int32) (mat : Int32) (stm : Int32) (him : Int32) (ki : Int32) (crs : Int32) (rm : Int32) (n : Nat) (sn : Nat) (dn : Int32) (kf : Nat → Int32) (ff : Nat → Int32) (wf : Nat → Int32) (stf : Nat → Int32) (K : Nat → Nat) (F : Nat → Nat) (W0 : Nat → Nat) (S5 : Nat → Nat) (mr : Nat → Int32) (i : Int32) (j : Int32) (hev : EVS n sn dn K F W0 S5 kf ff wf stf) : Met l yX12_swap (wW yX12_swap cX12_swap 3 (some .int)) ({ frames := 2, cells := 0, slots := 0, locals := 44 } : Room) (va_Pc [Value.ref g0, Value.int i, Value.int j] (fun U => U.heap.size = sz ∧ va_P (dC, dI) classes [oX12 g0 m_refused m_kind m_figure m_weight m_got m_setting (nI n) (nI sn) dn m_tape m_letter m_letterAt m_told tp mat stm m_kept him ki crs m_price m_offer m_gets m_yes m_buys m_ends m_carried m_row rm m_keptRow m_likeGets m_likePrice m_ahead, cI aC m_kind 9 kf, cI aC m_figure 9 ff, cI aC m_weight 9 wf, cI aC m_refused 7 mr] U.heap ∧ va_K (dC, dI) classes (TY aC) U ∧ va_D (fun _ => True) [oX12 g0 m_refused m_kind m_figure m_weight m_got m_setting (nI n) (nI sn) dn m_tape m_letter m_letterAt m_told tp mat stm m_kept him ki crs m_price m_offer m_gets m_yes m_buys m_ends m_carried m_row rm m_keptRow m_likeGets m_likePrice m_ahead, cI aC m_kind 9 kf, cI aC m_figure 9 ff, cI aC m_weight 9 wf, cI aC m_refused 7 mr] ∧ NX U)) (va_Qi (fun (r : Int32) (u : (Nat → Int32) × (Nat → Int32) × (Nat → Int32) × (Nat → Int32)) => match u with | (kf2, ff2, wf2, mr2) => r = rSwp n sn dn i j ∧ (SWK n sn dn i j → EVS n sn dn (fun q => K (swq i.toNatClampNeg j.toNatClampNeg q)) (fun q => F (swq i.toNatClampNeg j.toNatClampNeg q)) (fun q => W0 (swq i.toNatClampNeg j.toNatClampNeg q)) S5 kf2 ff2 wf2 stf) ∧ (¬ SWK n sn dn i j → kf2 = kf ∧ ff2 = ff ∧ wf2 = wf)) (fun (u : (Nat → Int32) × (Nat → Int32) × (Nat → Int32) × (Nat → Int32)) (t : State) => match u with | (kf2, ff2, wf2, mr2) => va_P (dC, dI) classes [oX12 g0 m_refused m_kind m_figure m_weight m_got m_setting (nI n) (nI sn) dn m_tape m_letter m_letterAt m_told tp mat stm m_kept him ki crs m_price m_offer m_gets m_yes m_buys m_ends m_carried m_row rm m_keptRow m_likeGets m_likePrice m_ahead, cI aC m_kind 9 kf2, cI aC m_figure 9 ff2, cI aC m_weight 9 wf2, cI aC m_refused 7 mr2] t.heap ∧ va_K (dC, dI) classes (TY aC) t ∧ va_D (va_A [oX12 g0 m_refused m_kind m_figure m_weight m_got m_setting (nI n) (nI sn) dn m_tape m_letter m_letterAt m_told tp mat stm m_kept him ki crs m_price m_offer m_gets m_yes m_buys m_ends m_carried m_row rm m_keptRow m_likeGets m_likePrice m_ahead, cI aC m_kind 9 kf, cI aC m_figure 9 ff, cI aC m_weight 9 wf, cI aC m_refused 7 mr] sz) [oX12 g0 m_refused m_kind m_figure m_weight m_got m_setting (nI n) (nI sn) dn m_tape m_letter m_letterAt m_told tp mat stm m_kept him ki crs m_price m_offer m_gets m_yes m_buys m_ends m_carried m_row rm m_keptRow m_likeGets m_likePrice m_ahead, cI aC m_kind 9 kf2, cI aC m_figure 9 ff2, cI aC m_weight 9 wf2, cI aC m_refused 7 mr2]) (va_A [oX12 g0 m_refused m_kind m_figure m_weight m_got m_setting (nI n) (nI sn) dn m_tape m_letter m_letterAt m_told tp mat stm m_kept him ki crs m_price m_offer m_gets m_yes m_buys m_ends m_carried m_row rm m_keptRow m_likeGets m_likePrice m_ahead, cI aC m_kind 9 kf, cI aC m_figure 9 ff, cI aC m_weight 9 wf, cI aC m_refused 7 mr] sz)) 0 0 (va_A [oX12 g0 m_refused m_kind m_figure m_weight m_got m_setting (nI n) (nI sn) dn m_tape m_letter m_letterAt m_told tp mat stm m_kept him ki crs m_price m_offer m_gets m_yes m_buys m_ends m_carried m_row rm m_keptRow m_likeGets m_likePrice m_ahead, cI aC m_kind 9 kf, cI aC m_figure 9 ff, cI aC m_weight 9 wf, cI aC m_refused 7 mr] sz) := by
  refine Met.ofW (cc := cX12_swap) (maxL := 3) (ret := (some .int)) (by decide) rfl ?_
  intro p e s m args below meth c s₁ B hml hv
  obtain ⟨rfl, hsz, hP, hK, hD0, hN⟩ := hv
  have hx := B.exec
  have hb := B.bytes
  have hr := B.returns
  have hts0 := atoms_spec (ws := (wW yX12_swap cX12_swap 3 (some .int))) B.pre
  have hts : ∀ w9 ∈ lw_G, w9.before ([Value.ref g0, Value.int i, Value.int j] : List Value).toArray s = true := fun w9 h9 => hts0 w9 (List.mem_cons_of_mem _ h9)
  have hown : s.vm.findClass RX12 = some m.cls := findClass_of_methodNamed (x := yX12_swap) B.named
  have hlocks := B.notSynchronized
  subst hsz
  have hD := hD0.self (sz := s.heap.size)
  generalize hAe : va_A [oX12 g0 m_refused m_kind m_figure m_weight m_got m_setting (nI n) (nI sn) dn m_tape m_letter m_letterAt m_told tp mat stm m_kept him ki crs m_price m_offer m_gets m_yes m_buys m_ends m_carried m_row rm m_keptRow m_likeGets m_likePrice m_ahead, cI aC m_kind 9 kf, cI aC m_figure 9 ff, cI aC m_weight 9 wf, cI aC m_refused 7 mr] s.heap.size = A at hD ⊢
  have hA : ∀ q : Nat, s.heap.size ≤ q → A q := fun q h => by rw [← hAe]; exact Or.inr h
  obtain ⟨H, hHe⟩ : ∃ H : Heap, H = s.heap := ⟨_, rfl⟩
  have hS : va_S A s.heap H [] := by rw [hHe]; exact va_S.rf
  have hP : va_P (dC, dI) classes [oX12 g0 m_refused m_kind m_figure m_weight m_got m_setting (nI n) (nI sn) dn m_tape m_letter m_letterAt m_told tp mat stm m_kept him ki crs m_price m_offer m_gets m_yes m_buys m_ends m_carried m_row rm m_keptRow m_likeGets m_likePrice m_ahead, cI aC m_kind 9 kf, cI aC m_figure 9 ff, cI aC m_weight 9 wf, cI aC m_refused 7 mr] H := by rw [hHe]; exact hP
  have hl := lv_entry ([Value.ref g0, Value.int i, Value.int j]) (n := 3) (Nat.le_of_ble_eq_true rfl)
  rw [lg_entry_eq]
  generalize (lg_sl ([Value.ref g0, Value.int i, Value.int j]) ++ List.replicate (3 - (lg_sl ([Value.ref g0, Value.int i, Value.int j])).length) Slot.unset).toArray = ls at hl ⊢
  have hl : lv_has ls 3 [(0, Value.ref g0), (1, Value.int i), (2, Value.int j)] := hl
  rw [← hHe]
  have hn8 := EVS_n hev
  have hsl := sn_le hev
  refine lv_aload_n hx hb dX12_swap_0 rfl (lv_at hl 0 rfl) ?_
  refine lv_iload_n hx hb dX12_swap_1 rfl (lv_at hl 1 rfl) ?_
  have hpd9 := pdf_N (cx := [oX12 g0 m_refused m_kind m_figure m_weight m_got m_setting (nI n) (nI sn) dn m_tape m_letter m_letterAt m_told tp mat stm m_kept him ki crs m_price m_offer m_gets m_yes m_buys m_ends m_carried m_row rm m_keptRow m_likeGets m_likePrice m_ahead]) hP hD hS hA [0] (by decide) rfl
  have hPc := hpd9.1
  have hDc := hpd9.2.1
  have hFc := hpd9.2.2
  clear hpd9
  refine va_calli (va_runV (As := [Value.int i]) (rest := []) ⟨hx, hb, hml, hown, hts⟩ (c_X12_isMan l dC dI aC H.size g0 m_refused m_kind m_figure m_weight m_got m_setting m_tape m_letter m_letterAt m_told m_kept m_price m_offer m_gets m_yes m_buys m_ends m_carried m_row m_keptRow m_likeGets m_likePrice m_ahead (nI n) (nI sn) dn tp mat stm him ki crs rm i ) ⟨(callB_of 1 hts (gG kw_878) rfl rfl rfl (hts _ (gw kw_13 rfl)) (hts _ (gw kw_875 rfl)) hd_X12_isMan ⟨Nat.le_of_ble_eq_true rfl, Nat.le_of_ble_eq_true rfl⟩), (hts _ (gw kw_877 rfl)), (hts _ (gw ks_43 rfl))⟩ ⟨fb_std, va_recv (q := (RX12, TX12, 33)) hK hPc (ci := 12) (q0 := 0) rfl rfl, pre_std hPc hK hDc hN⟩ rfl rfl hl.1 rfl (lv_room (Nat.le_of_ble_eq_true rfl)) dX12_swap_2 ⟨Nat.le_of_ble_eq_true rfl, Nat.le_of_ble_eq_true rfl⟩) hS (fun q _ h => hFc q h) hFc (fun x_1 u9 t9 H1 locs ht hvm hw_1 hB hz1 hk1 hS => ?_)
  obtain ⟨hP1, hK1, hD1⟩ := hB
  rw [ht] at hP1
  clear hK1
  try dsimp only at hw_1
  have hpd9 : PDx (dC, dI) classes A H1 [cI aC m_kind 9 kf, cI aC m_figure 9 ff, cI aC m_weight 9 wf, cI aC m_refused 7 mr, oX12 g0 m_refused m_kind m_figure m_weight m_got m_setting (nI n) (nI sn) dn m_tape m_letter m_letterAt m_told tp mat stm m_kept him ki crs m_price m_offer m_gets m_yes m_buys m_ends m_carried m_row rm m_keptRow m_likeGets m_likePrice m_ahead] := jn_N (wr := [cI aC m_kind 9 kf, cI aC m_figure 9 ff, cI aC m_weight 9 wf, cI aC m_refused 7 mr]) hFc hk1 hP1 hD1 hP hD [0] [1, 2, 3, 4] rfl rfl (by decide) (by decide)
  have hP := hpd9.1
  have hD := hpd9.2
  clear hpd9
  generalize H1 = H at hP hS ⊢
  clear hPc hDc hFc hz1 hk1 hP1 hD1 ht hvm
  have hz_2 := hw_1
  refine lv_if_eq (tgt := 21) hx hb dX12_swap_5 (by decide) (fun c_2 => ?_) (fun c_2 => ?_)
  · refine lv_aload_n hx hb dX12_swap_21 rfl (lv_at hl 0 rfl) ?_
    refine lv_iconst (v := -1) hx hb dX12_swap_22 (by decide) ?_
    have hpd9 := pdf_N (cx := [oX12 g0 m_refused m_kind m_figure m_weight m_got m_setting (nI n) (nI sn) dn m_tape m_letter m_letterAt m_told tp mat stm m_kept him ki crs m_price m_offer m_gets m_yes m_buys m_ends m_carried m_row rm m_keptRow m_likeGets m_likePrice m_ahead, cI aC m_refused 7 mr]) hP hD hS hA [4, 3] (by decide) rfl
    have hPc := hpd9.1
    have hDc := hpd9.2.1
    have hFc := hpd9.2.2
    clear hpd9
    refine va_calli (va_runV (As := [Value.int (-1)]) (rest := []) ⟨hx, hb, hml, hown, hts⟩ (c_X12_no l dC dI aC H.size g0 m_refused m_kind m_figure m_weight m_got m_setting m_tape m_letter m_letterAt m_told m_kept m_price m_offer m_gets m_yes m_buys m_ends m_carried m_row m_keptRow m_likeGets m_likePrice m_ahead (nI n) (nI sn) dn tp mat stm him ki crs rm (-1) 1 mr (by decide) (by unfold vp_in; decide)) ⟨(callB_of 1 hts (gG kw_827) rfl rfl rfl (hts _ (gw kw_13 rfl)) (hts _ (gw kw_824 rfl)) hd_X12_no ⟨Nat.le_of_ble_eq_true rfl, Nat.le_of_ble_eq_true rfl⟩), (hts _ (gw kw_826 rfl)), (hts _ (gw ks_35 rfl))⟩ ⟨fb_std, va_recv (q := (RX12, TX12, 33)) hK hPc (ci := 12) (q0 := 0) rfl rfl, pre_std hPc hK hDc hN⟩ rfl rfl hl.1 rfl (lv_room (Nat.le_of_ble_eq_true rfl)) dX12_swap_23 ⟨Nat.le_of_ble_eq_true rfl, Nat.le_of_ble_eq_true rfl⟩) hS (fun q _ h => hFc q h) hFc (fun x_3 u9 t9 H1 locs ht hvm hw_3 hB hz1 hk1 hS => ?_)
    obtain ⟨u_4, rfl⟩ : ∃ z, z = u9 := ⟨_, rfl⟩
    obtain ⟨hP1, hK1, hD1⟩ := hB
    rw [ht] at hP1
    clear hK1
    try dsimp only at hw_3
    have hpd9 : PDx (dC, dI) classes A H1 [cI aC m_kind 9 kf, cI aC m_figure 9 ff, cI aC m_weight 9 wf, oX12 g0 m_refused m_kind m_figure m_weight m_got m_setting (nI n) (nI sn) dn m_tape m_letter m_letterAt m_told tp mat stm m_kept him ki crs m_price m_offer m_gets m_yes m_buys m_ends m_carried m_row rm m_keptRow m_likeGets m_likePrice m_ahead, cI aC m_refused 7 u_4] := jn_N (wr := [cI aC m_kind 9 kf, cI aC m_figure 9 ff, cI aC m_weight 9 wf]) hFc hk1 hP1 hD1 hP hD [4, 3] [0, 1, 2] rfl rfl (by decide) (by decide)
    have hP := hpd9.1
    have hD := hpd9.2
    clear hpd9
    generalize H1 = H at hP hS ⊢
    clear hPc hDc hFc hz1 hk1 hP1 hD1 ht hvm
    obtain ⟨hv9, -⟩ := hw_3
    have hpd9 := pd_N (cx := [oX12 g0 m_refused m_kind m_figure m_weight m_got m_setting (nI n) (nI sn) dn m_tape m_letter m_letterAt m_told tp mat stm m_kept him ki crs m_price m_offer m_gets m_yes m_buys m_ends m_carried m_row rm m_keptRow m_likeGets m_likePrice m_ahead, cI aC m_kind 9 kf, cI aC m_figure 9 ff, cI aC m_weight 9 wf, cI aC m_refused 7 u_4]) hP hD [3, 0, 1, 2, 4] (by decide) rfl
    have hP9 := hpd9.1
    have hD9 := hpd9.2
    refine W.widen (k := 0) (n := 0) (by omega) (by omega) ?_
    exact W.iret (v := x_3) hx hb hr (fun t ht hW => ⟨⟨x_3, (kf, ff, wf, u_4), rfl, ⟨by rw [hv9]; unfold rSwp; rw [if_neg (fun q => (has_n hz_2 c_2) q.1)], fun q => absurd q (fun q => (has_n hz_2 c_2) q.1), fun _ => ⟨rfl, rfl, rfl⟩⟩, by rw [ht]; exact hP9, va_K.moved hW.alike hK, hD9⟩, hS.F ht⟩) hS.2.2 dX12_swap_26
  · obtain ⟨a, ha8, ha9⟩ := OKI_ix hn8 (has_y hz_2 c_2)
    have h9 : i = nI a := ha9
    subst h9
    refine lv_aload_n hx hb dX12_swap_8 rfl (lv_at hl 0 rfl) ?_
    refine lv_iload_n hx hb dX12_swap_9 rfl (lv_at hl 2 rfl) ?_
    have hpd9 := pdf_N (cx := [oX12 g0 m_refused m_kind m_figure m_weight m_got m_setting (nI n) (nI sn) dn m_tape m_letter m_letterAt m_told tp mat stm m_kept him ki crs m_price m_offer m_gets m_yes m_buys m_ends m_carried m_row rm m_keptRow m_likeGets m_likePrice m_ahead]) hP hD hS hA [4] (by decide) rfl
    have hPc := hpd9.1
    have hDc := hpd9.2.1
    have hFc := hpd9.2.2
    clear hpd9
    refine va_calli (va_runV (As := [Value.int j]) (rest := []) ⟨hx, hb, hml, hown, hts⟩ (c_X12_isMan l dC dI aC H.size g0 m_refused m_kind m_figure m_weight m_got m_setting m_tape m_letter m_letterAt m_told m_kept m_price m_offer m_gets m_yes m_buys m_ends m_carried m_row m_keptRow m_likeGets m_likePrice m_ahead (nI n) (nI sn) dn tp mat stm him ki crs rm j ) ⟨(callB_of 1 hts (gG kw_878) rfl rfl rfl (hts _ (gw kw_13 rfl)) (hts _ (gw kw_875 rfl)) hd_X12_isMan ⟨Nat.le_of_ble_eq_true rfl, Nat.le_of_ble_eq_true rfl⟩), (hts _ (gw kw_877 rfl)), (hts _ (gw ks_43 rfl))⟩ ⟨fb_std, va_recv (q := (RX12, TX12, 33)) hK hPc (ci := 12) (q0 := 0) rfl rfl, pre_std hPc hK hDc hN⟩ rfl rfl hl.1 rfl (lv_room (Nat.le_of_ble_eq_true rfl)) dX12_swap_10 ⟨Nat.le_of_ble_eq_true rfl, Nat.le_of_ble_eq_true rfl⟩) hS (fun q _ h => hFc q h) hFc (fun x_5 u9 t9 H1 locs ht hvm hw_5 hB hz1 hk1 hS => ?_)
    obtain ⟨hP1, hK1, hD1⟩ := hB
    rw [ht] at hP1
    clear hK1
    try dsimp only at hw_5
    have hpd9 : PDx (dC, dI) classes A H1 [cI aC m_kind 9 kf, cI aC m_figure 9 ff, cI aC m_weight 9 wf, cI aC m_refused 7 mr, oX12 g0 m_refused m_kind m_figure m_weight m_got m_setting (nI n) (nI sn) dn m_tape m_letter m_letterAt m_told tp mat stm m_kept him ki crs m_price m_offer m_gets m_yes m_buys m_ends m_carried m_row rm m_keptRow m_likeGets m_likePrice m_ahead] := jn_N (wr := [cI aC m_kind 9 kf, cI aC m_figure 9 ff, cI aC m_weight 9 wf, cI aC m_refused 7 mr]) hFc hk1 hP1 hD1 hP hD [4] [0, 1, 2, 3] rfl rfl (by decide) (by decide)
    have hP := hpd9.1
    have hD := hpd9.2
    clear hpd9
    generalize H1 = H at hP hS ⊢
    clear hPc hDc hFc hz1 hk1 hP1 hD1 ht hvm
    have hz_10 := hw_5
    refine lv_if_eq (tgt := 21) hx hb dX12_swap_13 (by decide) (fun c_6 => ?_) (fun c_6 => ?_)
    · refine lv_aload_n hx hb dX12_swap_21 rfl (lv_at hl 0 rfl) ?_
      refine lv_iconst (v := -1) hx hb dX12_swap_22 (by decide) ?_
      have hpd9 := pdf_N (cx := [oX12 g0 m_refused m_kind m_figure m_weight m_got m_setting (nI n) (nI sn) dn m_tape m_letter m_letterAt m_told tp mat stm m_kept him ki crs m_price m_offer m_gets m_yes m_buys m_ends m_carried m_row rm m_keptRow m_likeGets m_likePrice m_ahead, cI aC m_refused 7 mr]) hP hD hS hA [4, 3] (by decide) rfl
      have hPc := hpd9.1
      have hDc := hpd9.2.1
      have hFc := hpd9.2.2
      clear hpd9
      refine va_calli (va_runV (As := [Value.int (-1)]) (rest := []) ⟨hx, hb, hml, hown, hts⟩ (c_X12_no l dC dI aC H.size g0 m_refused m_kind m_figure m_weight m_got m_setting m_tape m_letter m_letterAt m_told m_kept m_price m_offer m_gets m_yes m_buys m_ends m_carried m_row m_keptRow m_likeGets m_likePrice m_ahead (nI n) (nI sn) dn tp mat stm him ki crs rm (-1) 1 mr (by decide) (by unfold vp_in; decide)) ⟨(callB_of 1 hts (gG kw_827) rfl rfl rfl (hts _ (gw kw_13 rfl)) (hts _ (gw kw_824 rfl)) hd_X12_no ⟨Nat.le_of_ble_eq_true rfl, Nat.le_of_ble_eq_true rfl⟩), (hts _ (gw kw_826 rfl)), (hts _ (gw ks_35 rfl))⟩ ⟨fb_std, va_recv (q := (RX12, TX12, 33)) hK hPc (ci := 12) (q0 := 0) rfl rfl, pre_std hPc hK hDc hN⟩ rfl rfl hl.1 rfl (lv_room (Nat.le_of_ble_eq_true rfl)) dX12_swap_23 ⟨Nat.le_of_ble_eq_true rfl, Nat.le_of_ble_eq_true rfl⟩) hS (fun q _ h => hFc q h) hFc (fun x_7 u9 t9 H1 locs ht hvm hw_7 hB hz1 hk1 hS => ?_)
      obtain ⟨u_8, rfl⟩ : ∃ z, z = u9 := ⟨_, rfl⟩
      obtain ⟨hP1, hK1, hD1⟩ := hB
      rw [ht] at hP1
      clear hK1
      try dsimp only at hw_7
      have hpd9 : PDx (dC, dI) classes A H1 [cI aC m_kind 9 kf, cI aC m_figure 9 ff, cI aC m_weight 9 wf, oX12 g0 m_refused m_kind m_figure m_weight m_got m_setting (nI n) (nI sn) dn m_tape m_letter m_letterAt m_told tp mat stm m_kept him ki crs m_price m_offer m_gets m_yes m_buys m_ends m_carried m_row rm m_keptRow m_likeGets m_likePrice m_ahead, cI aC m_refused 7 u_8] := jn_N (wr := [cI aC m_kind 9 kf, cI aC m_figure 9 ff, cI aC m_weight 9 wf]) hFc hk1 hP1 hD1 hP hD [4, 3] [0, 1, 2] rfl rfl (by decide) (by decide)
      have hP := hpd9.1
      have hD := hpd9.2
      clear hpd9
      generalize H1 = H at hP hS ⊢
      clear hPc hDc hFc hz1 hk1 hP1 hD1 ht hvm
      obtain ⟨hv9, -⟩ := hw_7
      have hpd9 := pd_N (cx := [oX12 g0 m_refused m_kind m_figure m_weight m_got m_setting (nI n) (nI sn) dn m_tape m_letter m_letterAt m_told tp mat stm m_kept him ki crs m_price m_offer m_gets m_yes m_buys m_ends m_carried m_row rm m_keptRow m_likeGets m_likePrice m_ahead, cI aC m_kind 9 kf, cI aC m_figure 9 ff, cI aC m_weight 9 wf, cI aC m_refused 7 u_8]) hP hD [3, 0, 1, 2, 4] (by decide) rfl
      have hP9 := hpd9.1
      have hD9 := hpd9.2
      refine W.widen (k := 0) (n := 0) (by omega) (by omega) ?_
      exact W.iret (v := x_7) hx hb hr (fun t ht hW => ⟨⟨x_7, (kf, ff, wf, u_8), rfl, ⟨by rw [hv9]; unfold rSwp; rw [if_neg (fun q => (has_n hz_10 c_6) q.2.1)], fun q => absurd q (fun q => (has_n hz_10 c_6) q.2.1), fun _ => ⟨rfl, rfl, rfl⟩⟩, by rw [ht]; exact hP9, va_K.moved hW.alike hK, hD9⟩, hS.F ht⟩) hS.2.2 dX12_swap_26
    · obtain ⟨b, hb8, hb9⟩ := OKI_ix hn8 (has_y hz_10 c_6)
      have h9 : j = nI b := hb9
      subst h9
      refine lv_iload_n hx hb dX12_swap_16 rfl (lv_at hl 1 rfl) ?_
      refine lv_iload_n hx hb dX12_swap_17 rfl (lv_at hl 2 rfl) ?_
      refine lv_icmp_ne (tgt := 27) hx hb dX12_swap_18 (by decide) (fun c_9 => ?_) (fun c_9 => ?_)
      · refine lv_aload_n hx hb dX12_swap_27 rfl (lv_at hl 0 rfl) ?_
        refine va_get (D := (dC, dI)) (ci := 12) (v := Value.int (nI sn)) (C := RX12) (T := TX12) (N := 33) hx hb hts inX12 hown hK hP 4 rfl rfl 7 (by decide) (hts _ (gw kw_724 rfl)) (fun _ h9 => h9) rfl dX12_swap_28 ?_
        refine lv_if_gt (tgt := 42) hx hb dX12_swap_31 (by decide) (fun c_10 => ?_) (fun c_10 => ?_)
        · refine lv_aload_n hx hb dX12_swap_42 rfl (lv_at hl 0 rfl) ?_
          refine lv_bipush (v := -3) hx hb dX12_swap_43 (by decide) ?_
          have hpd9 := pdf_N (cx := [oX12 g0 m_refused m_kind m_figure m_weight m_got m_setting (nI n) (nI sn) dn m_tape m_letter m_letterAt m_told tp mat stm m_kept him ki crs m_price m_offer m_gets m_yes m_buys m_ends m_carried m_row rm m_keptRow m_likeGets m_likePrice m_ahead, cI aC m_refused 7 mr]) hP hD hS hA [4, 3] (by decide) rfl
          have hPc := hpd9.1
          have hDc := hpd9.2.1
          have hFc := hpd9.2.2
          clear hpd9
          refine va_calli (va_runV (As := [Value.int (-3)]) (rest := []) ⟨hx, hb, hml, hown, hts⟩ (c_X12_no l dC dI aC H.size g0 m_refused m_kind m_figure m_weight m_got m_setting m_tape m_letter m_letterAt m_told m_kept m_price m_offer m_gets m_yes m_buys m_ends m_carried m_row m_keptRow m_likeGets m_likePrice m_ahead (nI n) (nI sn) dn tp mat stm him ki crs rm (-3) 3 mr (by decide) (by unfold vp_in; decide)) ⟨(callB_of 1 hts (gG kw_827) rfl rfl rfl (hts _ (gw kw_13 rfl)) (hts _ (gw kw_824 rfl)) hd_X12_no ⟨Nat.le_of_ble_eq_true rfl, Nat.le_of_ble_eq_true rfl⟩), (hts _ (gw kw_826 rfl)), (hts _ (gw ks_35 rfl))⟩ ⟨fb_std, va_recv (q := (RX12, TX12, 33)) hK hPc (ci := 12) (q0 := 0) rfl rfl, pre_std hPc hK hDc hN⟩ rfl rfl hl.1 rfl (lv_room (Nat.le_of_ble_eq_true rfl)) dX12_swap_45 ⟨Nat.le_of_ble_eq_true rfl, Nat.le_of_ble_eq_true rfl⟩) hS (fun q _ h => hFc q h) hFc (fun x_11 u9 t9 H1 locs ht hvm hw_11 hB hz1 hk1 hS => ?_)
          obtain ⟨u_12, rfl⟩ : ∃ z, z = u9 := ⟨_, rfl⟩
          obtain ⟨hP1, hK1, hD1⟩ := hB
          rw [ht] at hP1
          clear hK1
          try dsimp only at hw_11
          have hpd9 : PDx (dC, dI) classes A H1 [cI aC m_kind 9 kf, cI aC m_figure 9 ff, cI aC m_weight 9 wf, oX12 g0 m_refused m_kind m_figure m_weight m_got m_setting (nI n) (nI sn) dn m_tape m_letter m_letterAt m_told tp mat stm m_kept him ki crs m_price m_offer m_gets m_yes m_buys m_ends m_carried m_row rm m_keptRow m_likeGets m_likePrice m_ahead, cI aC m_refused 7 u_12] := jn_N (wr := [cI aC m_kind 9 kf, cI aC m_figure 9 ff, cI aC m_weight 9 wf]) hFc hk1 hP1 hD1 hP hD [4, 3] [0, 1, 2] rfl rfl (by decide) (by decide)
          have hP := hpd9.1
          have hD := hpd9.2
          clear hpd9
          generalize H1 = H at hP hS ⊢
          clear hPc hDc hFc hz1 hk1 hP1 hD1 ht hvm
          obtain ⟨hv9, -⟩ := hw_11
          have hpd9 := pd_N (cx := [oX12 g0 m_refused m_kind m_figure m_weight m_got m_setting (nI n) (nI sn) dn m_tape m_letter m_letterAt m_told tp mat stm m_kept him ki crs m_price m_offer m_gets m_yes m_buys m_ends m_carried m_row rm m_keptRow m_likeGets m_likePrice m_ahead, cI aC m_kind 9 kf, cI aC m_figure 9 ff, cI aC m_weight 9 wf, cI aC m_refused 7 u_12]) hP hD [3, 0, 1, 2, 4] (by decide) rfl
          have hP9 := hpd9.1
          have hD9 := hpd9.2
          refine W.widen (k := 0) (n := 0) (by omega) (by omega) ?_
          exact W.iret (v := x_11) hx hb hr (fun t ht hW => ⟨⟨x_11, (kf, ff, wf, u_12), rfl, ⟨by rw [hv9]; unfold rSwp; rw [if_pos ⟨OKI_nI hn8 ha8, OKI_nI hn8 hb8, c_9⟩, if_pos (Or.inr ((nI_ltI (a := 0) (b := sn) (by omega) (by omega)).mp c_10))], fun q => absurd q (fun q => by have h6 : 0 < sn := ((nI_ltI (a := 0) (b := sn) (by omega) (by omega)).mp c_10); have := q.2.2.2.2; omega), fun _ => ⟨rfl, rfl, rfl⟩⟩, by rw [ht]; exact hP9, va_K.moved hW.alike hK, hD9⟩, hS.F ht⟩) hS.2.2 dX12_swap_48
        · refine lv_aload_n hx hb dX12_swap_34 rfl (lv_at hl 0 rfl) ?_
          refine va_get (D := (dC, dI)) (ci := 12) (v := Value.int dn) (C := RX12) (T := TX12) (N := 33) hx hb hts inX12 hown hK hP 4 rfl rfl 8 (by decide) (hts _ (gw kw_725 rfl)) (fun _ h9 => h9) rfl dX12_swap_35 ?_
          refine lv_iconst (v := 1) hx hb dX12_swap_38 (by decide) ?_
          refine lv_icmp_ne (tgt := 49) hx hb dX12_swap_39 (by decide) (fun c_13 => ?_) (fun c_13 => ?_)
          · have hov : ¬ OVR n dn := fun q => q.elim (fun z => by omega) c_13
            have hs0 : sn = 0 := by
              rcases Nat.eq_zero_or_pos sn with e | e
              · exact e
              · exact absurd (nI_lt (a := 0) e (by omega)) c_10
            refine lv_aload_n hx hb dX12_swap_49 rfl (lv_at hl 0 rfl) ?_
            refine lv_iload_n hx hb dX12_swap_50 rfl (lv_at hl 1 rfl) ?_
            refine lv_iload_n hx hb dX12_swap_51 rfl (lv_at hl 2 rfl) ?_
            have hpd9 := pdf_N (cx := [oX12 g0 m_refused m_kind m_figure m_weight m_got m_setting (nI n) (nI sn) dn m_tape m_letter m_letterAt m_told tp mat stm m_kept him ki crs m_price m_offer m_gets m_yes m_buys m_ends m_carried m_row rm m_keptRow m_likeGets m_likePrice m_ahead, cI aC m_kind 9 kf, cI aC m_figure 9 ff, cI aC m_weight 9 wf]) hP hD hS hA [4, 0, 1, 2] (by decide) rfl
            have hPc := hpd9.1
            have hDc := hpd9.2.1
            have hFc := hpd9.2.2
            clear hpd9
            refine va_callv (va_runV (As := [Value.int (nI a), Value.int (nI b)]) (rest := []) ⟨hx, hb, hml, hown, hts⟩ (c_X12_swaps l dC dI aC H.size g0 m_refused m_kind m_figure m_weight m_got m_setting m_tape m_letter m_letterAt m_told m_kept m_price m_offer m_gets m_yes m_buys m_ends m_carried m_row m_keptRow m_likeGets m_likePrice m_ahead (nI n) (nI sn) dn tp mat stm him ki crs rm kf ff wf a b (by omega)) ⟨(callB_of 2 hts (gG kw_1058) rfl rfl rfl (hts _ (gw kw_13 rfl)) (hts _ (gw kw_1055 rfl)) hd_X12_swaps ⟨Nat.le_of_ble_eq_true rfl, Nat.le_of_ble_eq_true rfl⟩), (hts _ (gw kw_1057 rfl)), (hts _ (gw ks_66 rfl))⟩ ⟨fb_std, va_recv (q := (RX12, TX12, 33)) hK hPc (ci := 12) (q0 := 0) rfl rfl, pre_std hPc hK hDc hN⟩ rfl rfl hl.1 rfl (lv_room (Nat.le_of_ble_eq_true rfl)) dX12_swap_52 ⟨Nat.le_of_ble_eq_true rfl, Nat.le_of_ble_eq_true rfl⟩) hS (fun q _ h => hFc q h) hFc (fun u9 t9 H1 locs ht hvm hw_14 hB hz1 hk1 hS => ?_)
            obtain ⟨u_15, u_16, u_17⟩ := u9
            obtain ⟨hP1, hK1, hD1⟩ := hB
            rw [ht] at hP1
            clear hK1
            try dsimp only at hw_14
            have hpd9 : PDx (dC, dI) classes A H1 [cI aC m_refused 7 mr, oX12 g0 m_refused m_kind m_figure m_weight m_got m_setting (nI n) (nI sn) dn m_tape m_letter m_letterAt m_told tp mat stm m_kept him ki crs m_price m_offer m_gets m_yes m_buys m_ends m_carried m_row rm m_keptRow m_likeGets m_likePrice m_ahead, cI aC m_kind 9 u_15, cI aC m_figure 9 u_16, cI aC m_weight 9 u_17] := jn_N (wr := [cI aC m_refused 7 mr]) hFc hk1 hP1 hD1 hP hD [4, 0, 1, 2] [3] rfl rfl (by decide) (by decide)
            have hP := hpd9.1
            have hD := hpd9.2
            clear hpd9
            generalize H1 = H at hP hS ⊢
            clear hPc hDc hFc hz1 hk1 hP1 hD1 ht hvm
            have hsq := hw_14
            refine lv_iconst (v := 1) hx hb dX12_swap_55 (by decide) ?_
            have hpd9 := pd_N (cx := [oX12 g0 m_refused m_kind m_figure m_weight m_got m_setting (nI n) (nI sn) dn m_tape m_letter m_letterAt m_told tp mat stm m_kept him ki crs m_price m_offer m_gets m_yes m_buys m_ends m_carried m_row rm m_keptRow m_likeGets m_likePrice m_ahead, cI aC m_kind 9 u_15, cI aC m_figure 9 u_16, cI aC m_weight 9 u_17, cI aC m_refused 7 mr]) hP hD [1, 2, 3, 4, 0] (by decide) rfl
            have hP9 := hpd9.1
            have hD9 := hpd9.2
            refine W.widen (k := 0) (n := 0) (by omega) (by omega) ?_
            exact W.iret (v := 1) hx hb hr (fun t ht hW => ⟨⟨1, (u_15, u_16, u_17, mr), rfl, ⟨by unfold rSwp; rw [if_pos ⟨OKI_nI hn8 ha8, OKI_nI hn8 hb8, c_9⟩, if_neg (fun q => q.elim hov (fun z => by omega))], fun _ => by rw [nI_clamp (by omega), nI_clamp (by omega)]; exact EVS_sq hev ha8 hb8 hsq.1 hsq.2.1 hsq.2.2, fun q => absurd ⟨OKI_nI hn8 ha8, OKI_nI hn8 hb8, c_9, hov, hs0⟩ q⟩, by rw [ht]; exact hP9, va_K.moved hW.alike hK, hD9⟩, hS.F ht⟩) hS.2.2 dX12_swap_56
          · refine lv_aload_n hx hb dX12_swap_42 rfl (lv_at hl 0 rfl) ?_
            refine lv_bipush (v := -3) hx hb dX12_swap_43 (by decide) ?_
            have hpd9 := pdf_N (cx := [oX12 g0 m_refused m_kind m_figure m_weight m_got m_setting (nI n) (nI sn) dn m_tape m_letter m_letterAt m_told tp mat stm m_kept him ki crs m_price m_offer m_gets m_yes m_buys m_ends m_carried m_row rm m_keptRow m_likeGets m_likePrice m_ahead, cI aC m_refused 7 mr]) hP hD hS hA [4, 3] (by decide) rfl
            have hPc := hpd9.1
            have hDc := hpd9.2.1
            have hFc := hpd9.2.2
            clear hpd9
            refine va_calli (va_runV (As := [Value.int (-3)]) (rest := []) ⟨hx, hb, hml, hown, hts⟩ (c_X12_no l dC dI aC H.size g0 m_refused m_kind m_figure m_weight m_got m_setting m_tape m_letter m_letterAt m_told m_kept m_price m_offer m_gets m_yes m_buys m_ends m_carried m_row m_keptRow m_likeGets m_likePrice m_ahead (nI n) (nI sn) dn tp mat stm him ki crs rm (-3) 3 mr (by decide) (by unfold vp_in; decide)) ⟨(callB_of 1 hts (gG kw_827) rfl rfl rfl (hts _ (gw kw_13 rfl)) (hts _ (gw kw_824 rfl)) hd_X12_no ⟨Nat.le_of_ble_eq_true rfl, Nat.le_of_ble_eq_true rfl⟩), (hts _ (gw kw_826 rfl)), (hts _ (gw ks_35 rfl))⟩ ⟨fb_std, va_recv (q := (RX12, TX12, 33)) hK hPc (ci := 12) (q0 := 0) rfl rfl, pre_std hPc hK hDc hN⟩ rfl rfl hl.1 rfl (lv_room (Nat.le_of_ble_eq_true rfl)) dX12_swap_45 ⟨Nat.le_of_ble_eq_true rfl, Nat.le_of_ble_eq_true rfl⟩) hS (fun q _ h => hFc q h) hFc (fun x_18 u9 t9 H1 locs ht hvm hw_18 hB hz1 hk1 hS => ?_)
            obtain ⟨u_19, rfl⟩ : ∃ z, z = u9 := ⟨_, rfl⟩
            obtain ⟨hP1, hK1, hD1⟩ := hB
            rw [ht] at hP1
            clear hK1
            try dsimp only at hw_18
            have hpd9 : PDx (dC, dI) classes A H1 [cI aC m_kind 9 kf, cI aC m_figure 9 ff, cI aC m_weight 9 wf, oX12 g0 m_refused m_kind m_figure m_weight m_got m_setting (nI n) (nI sn) dn m_tape m_letter m_letterAt m_told tp mat stm m_kept him ki crs m_price m_offer m_gets m_yes m_buys m_ends m_carried m_row rm m_keptRow m_likeGets m_likePrice m_ahead, cI aC m_refused 7 u_19] := jn_N (wr := [cI aC m_kind 9 kf, cI aC m_figure 9 ff, cI aC m_weight 9 wf]) hFc hk1 hP1 hD1 hP hD [4, 3] [0, 1, 2] rfl rfl (by decide) (by decide)
            have hP := hpd9.1
            have hD := hpd9.2
            clear hpd9
            generalize H1 = H at hP hS ⊢
            clear hPc hDc hFc hz1 hk1 hP1 hD1 ht hvm
            obtain ⟨hv9, -⟩ := hw_18
            have hpd9 := pd_N (cx := [oX12 g0 m_refused m_kind m_figure m_weight m_got m_setting (nI n) (nI sn) dn m_tape m_letter m_letterAt m_told tp mat stm m_kept him ki crs m_price m_offer m_gets m_yes m_buys m_ends m_carried m_row rm m_keptRow m_likeGets m_likePrice m_ahead, cI aC m_kind 9 kf, cI aC m_figure 9 ff, cI aC m_weight 9 wf, cI aC m_refused 7 u_19]) hP hD [3, 0, 1, 2, 4] (by decide) rfl
            have hP9 := hpd9.1
            have hD9 := hpd9.2
            refine W.widen (k := 0) (n := 0) (by omega) (by omega) ?_
            exact W.iret (v := x_18) hx hb hr (fun t ht hW => ⟨⟨x_18, (kf, ff, wf, u_19), rfl, ⟨by rw [hv9]; unfold rSwp; rw [if_pos ⟨OKI_nI hn8 ha8, OKI_nI hn8 hb8, c_9⟩, if_pos (Or.inl (Or.inr c_13))], fun q => absurd q (fun q => q.2.2.2.1 (Or.inr c_13)), fun _ => ⟨rfl, rfl, rfl⟩⟩, by rw [ht]; exact hP9, va_K.moved hW.alike hK, hD9⟩, hS.F ht⟩) hS.2.2 dX12_swap_48
      · refine lv_aload_n hx hb dX12_swap_21 rfl (lv_at hl 0 rfl) ?_
        refine lv_iconst (v := -1) hx hb dX12_swap_22 (by decide) ?_
        have hpd9 := pdf_N (cx := [oX12 g0 m_refused m_kind m_figure m_weight m_got m_setting (nI n) (nI sn) dn m_tape m_letter m_letterAt m_told tp mat stm m_kept him ki crs m_price m_offer m_gets m_yes m_buys m_ends m_carried m_row rm m_keptRow m_likeGets m_likePrice m_ahead, cI aC m_refused 7 mr]) hP hD hS hA [4, 3] (by decide) rfl
        have hPc := hpd9.1
        have hDc := hpd9.2.1
        have hFc := hpd9.2.2
        clear hpd9
        refine va_calli (va_runV (As := [Value.int (-1)]) (rest := []) ⟨hx, hb, hml, hown, hts⟩ (c_X12_no l dC dI aC H.size g0 m_refused m_kind m_figure m_weight m_got m_setting m_tape m_letter m_letterAt m_told m_kept m_price m_offer m_gets m_yes m_buys m_ends m_carried m_row m_keptRow m_likeGets m_likePrice m_ahead (nI n) (nI sn) dn tp mat stm him ki crs rm (-1) 1 mr (by decide) (by unfold vp_in; decide)) ⟨(callB_of 1 hts (gG kw_827) rfl rfl rfl (hts _ (gw kw_13 rfl)) (hts _ (gw kw_824 rfl)) hd_X12_no ⟨Nat.le_of_ble_eq_true rfl, Nat.le_of_ble_eq_true rfl⟩), (hts _ (gw kw_826 rfl)), (hts _ (gw ks_35 rfl))⟩ ⟨fb_std, va_recv (q := (RX12, TX12, 33)) hK hPc (ci := 12) (q0 := 0) rfl rfl, pre_std hPc hK hDc hN⟩ rfl rfl hl.1 rfl (lv_room (Nat.le_of_ble_eq_true rfl)) dX12_swap_23 ⟨Nat.le_of_ble_eq_true rfl, Nat.le_of_ble_eq_true rfl⟩) hS (fun q _ h => hFc q h) hFc (fun x_20 u9 t9 H1 locs ht hvm hw_20 hB hz1 hk1 hS => ?_)
        obtain ⟨u_21, rfl⟩ : ∃ z, z = u9 := ⟨_, rfl⟩
        obtain ⟨hP1, hK1, hD1⟩ := hB
        rw [ht] at hP1
        clear hK1
        try dsimp only at hw_20
        have hpd9 : PDx (dC, dI) classes A H1 [cI aC m_kind 9 kf, cI aC m_figure 9 ff, cI aC m_weight 9 wf, oX12 g0 m_refused m_kind m_figure m_weight m_got m_setting (nI n) (nI sn) dn m_tape m_letter m_letterAt m_told tp mat stm m_kept him ki crs m_price m_offer m_gets m_yes m_buys m_ends m_carried m_row rm m_keptRow m_likeGets m_likePrice m_ahead, cI aC m_refused 7 u_21] := jn_N (wr := [cI aC m_kind 9 kf, cI aC m_figure 9 ff, cI aC m_weight 9 wf]) hFc hk1 hP1 hD1 hP hD [4, 3] [0, 1, 2] rfl rfl (by decide) (by decide)
        have hP := hpd9.1
        have hD := hpd9.2
        clear hpd9
        generalize H1 = H at hP hS ⊢
        clear hPc hDc hFc hz1 hk1 hP1 hD1 ht hvm
        obtain ⟨hv9, -⟩ := hw_20
        have hpd9 := pd_N (cx := [oX12 g0 m_refused m_kind m_figure m_weight m_got m_setting (nI n) (nI sn) dn m_tape m_letter m_letterAt m_told tp mat stm m_kept him ki crs m_price m_offer m_gets m_yes m_buys m_ends m_carried m_row rm m_keptRow m_likeGets m_likePrice m_ahead, cI aC m_kind 9 kf, cI aC m_figure 9 ff, cI aC m_weight 9 wf, cI aC m_refused 7 u_21]) hP hD [3, 0, 1, 2, 4] (by decide) rfl
        have hP9 := hpd9.1
        have hD9 := hpd9.2
        refine W.widen (k := 0) (n := 0) (by omega) (by omega) ?_
        exact W.iret (v := x_20) hx hb hr (fun t ht hW => ⟨⟨x_20, (kf, ff, wf, u_21), rfl, ⟨by rw [hv9]; unfold rSwp; rw [if_neg (fun q => q.2.2 c_9)], fun q => absurd q (fun q => q.2.2.1 c_9), fun _ => ⟨rfl, rfl, rfl⟩⟩, by rw [ht]; exact hP9, va_K.moved hW.alike hK, hD9⟩, hS.F ht⟩) hS.2.2 dX12_swap_26

set_option maxHeartbeats 1000000 in
set_option maxRecDepth 100000 in
/-- X12_fewest -/
theorem c_X12_fewest (l : Launch) (dC : Nat → ClassId) (dI : Nat → Nat → Nat) (aC : Nat → ClassId) (sz : Nat) (g0 : Nat) (m_refused : Nat) (m_kind : Nat) (m_figure : Nat) (m_weight : Nat) (m_got : Nat) (m_setting : Nat) (m_tape : Nat) (m_letter : Nat) (m_letterAt : Nat) (m_told : Nat) (m_kept : Nat) (m_price : Nat) (m_offer : Nat) (m_gets : Nat) (m_yes : Nat) (m_buys : Nat) (m_ends : Nat) (m_carried : Nat) (m_row : Nat) (m_keptRow : Nat) (m_likeGets : Nat) (m_likePrice : Nat) (m_ahead : Nat) (tp : Int32) (mat : Int32) (stm : Int32) (him : Int32) (ki : Int32) (crs : Int32) (rm : Int32) (n : Nat) (sn : Nat) (dn : Int32) (kf : Nat → Int32) (ff : Nat → Int32) (wf : Nat → Int32) (stf : Nat → Int32) (pf : Nat → Int32) (of : Nat → Int32) (gf : Nat → Int32) (yf : Nat → Int32) (bf : Nat → Int32) (ef : Nat → Int32) (cf : Nat → Int32) (K : Nat → Nat) (F : Nat → Nat) (W0 : Nat → Nat) (S5 : Nat → Nat) (mr : Nat → Int32) (hev : EVS n sn dn K F W0 S5 kf ff wf stf) : Met l yX12_fewest (wW yX12_fewest cX12_fewest 4 (some .int)) ({ frames := 5, cells := 0, slots := 0, locals := 115 } : Room) (va_Pc [Value.ref g0] (fun U => U.heap.size = sz ∧ va_P (dC, dI) classes [oX12 g0 m_refused m_kind m_figure m_weight m_got m_setting (nI n) (nI sn) dn m_tape m_letter m_letterAt m_told tp mat stm m_kept him ki crs m_price m_offer m_gets m_yes m_buys m_ends m_carried m_row rm m_keptRow m_likeGets m_likePrice m_ahead, cI aC m_kind 9 kf, cI aC m_figure 9 ff, cI aC m_weight 9 wf, cI aC m_setting 5 stf, cI aC m_price 81 pf, cI aC m_offer 81 of, cI aC m_gets 90 gf, cI aC m_yes 9 yf, cI aC m_buys 9 bf, cI aC m_ends 9 ef, cI aC m_carried 9 cf, cI aC m_refused 7 mr] U.heap ∧ va_K (dC, dI) classes (TY aC) U ∧ va_D (fun _ => True) [oX12 g0 m_refused m_kind m_figure m_weight m_got m_setting (nI n) (nI sn) dn m_tape m_letter m_letterAt m_told tp mat stm m_kept him ki crs m_price m_offer m_gets m_yes m_buys m_ends m_carried m_row rm m_keptRow m_likeGets m_likePrice m_ahead, cI aC m_kind 9 kf, cI aC m_figure 9 ff, cI aC m_weight 9 wf, cI aC m_setting 5 stf, cI aC m_price 81 pf, cI aC m_offer 81 of, cI aC m_gets 90 gf, cI aC m_yes 9 yf, cI aC m_buys 9 bf, cI aC m_ends 9 ef, cI aC m_carried 9 cf, cI aC m_refused 7 mr] ∧ NX U)) (va_Qi (fun (r : Int32) (u : (Nat → Int32) × (Nat → Int32) × (Nat → Int32) × (Nat → Int32) × (Nat → Int32) × (Nat → Int32) × (Nat → Int32) × (Nat → Int32) × (Nat → Int32)) => match u with | (stf2, pf2, of2, gf2, yf2, bf2, ef2, cf2, mr2) => r = rFew n sn dn K F W0 S5 ∧ ∀ k, k < 5 → stf2 k = stf k) (fun (u : (Nat → Int32) × (Nat → Int32) × (Nat → Int32) × (Nat → Int32) × (Nat → Int32) × (Nat → Int32) × (Nat → Int32) × (Nat → Int32) × (Nat → Int32)) (t : State) => match u with | (stf2, pf2, of2, gf2, yf2, bf2, ef2, cf2, mr2) => va_P (dC, dI) classes [oX12 g0 m_refused m_kind m_figure m_weight m_got m_setting (nI n) (nI sn) dn m_tape m_letter m_letterAt m_told tp mat stm m_kept him ki crs m_price m_offer m_gets m_yes m_buys m_ends m_carried m_row rm m_keptRow m_likeGets m_likePrice m_ahead, cI aC m_kind 9 kf, cI aC m_figure 9 ff, cI aC m_weight 9 wf, cI aC m_setting 5 stf2, cI aC m_price 81 pf2, cI aC m_offer 81 of2, cI aC m_gets 90 gf2, cI aC m_yes 9 yf2, cI aC m_buys 9 bf2, cI aC m_ends 9 ef2, cI aC m_carried 9 cf2, cI aC m_refused 7 mr2] t.heap ∧ va_K (dC, dI) classes (TY aC) t ∧ va_D (va_A [oX12 g0 m_refused m_kind m_figure m_weight m_got m_setting (nI n) (nI sn) dn m_tape m_letter m_letterAt m_told tp mat stm m_kept him ki crs m_price m_offer m_gets m_yes m_buys m_ends m_carried m_row rm m_keptRow m_likeGets m_likePrice m_ahead, cI aC m_kind 9 kf, cI aC m_figure 9 ff, cI aC m_weight 9 wf, cI aC m_setting 5 stf, cI aC m_price 81 pf, cI aC m_offer 81 of, cI aC m_gets 90 gf, cI aC m_yes 9 yf, cI aC m_buys 9 bf, cI aC m_ends 9 ef, cI aC m_carried 9 cf, cI aC m_refused 7 mr] sz) [oX12 g0 m_refused m_kind m_figure m_weight m_got m_setting (nI n) (nI sn) dn m_tape m_letter m_letterAt m_told tp mat stm m_kept him ki crs m_price m_offer m_gets m_yes m_buys m_ends m_carried m_row rm m_keptRow m_likeGets m_likePrice m_ahead, cI aC m_kind 9 kf, cI aC m_figure 9 ff, cI aC m_weight 9 wf, cI aC m_setting 5 stf2, cI aC m_price 81 pf2, cI aC m_offer 81 of2, cI aC m_gets 90 gf2, cI aC m_yes 9 yf2, cI aC m_buys 9 bf2, cI aC m_ends 9 ef2, cI aC m_carried 9 cf2, cI aC m_refused 7 mr2]) (va_A [oX12 g0 m_refused m_kind m_figure m_weight m_got m_setting (nI n) (nI sn) dn m_tape m_letter m_letterAt m_told tp mat stm m_kept him ki crs m_price m_offer m_gets m_yes m_buys m_ends m_carried m_row rm m_keptRow m_likeGets m_likePrice m_ahead, cI aC m_kind 9 kf, cI aC m_figure 9 ff, cI aC m_weight 9 wf, cI aC m_setting 5 stf, cI aC m_price 81 pf, cI aC m_offer 81 of, cI aC m_gets 90 gf, cI aC m_yes 9 yf, cI aC m_buys 9 bf, cI aC m_ends 9 ef, cI aC m_carried 9 cf, cI aC m_refused 7 mr] sz)) 0 0 (va_A [oX12 g0 m_refused m_kind m_figure m_weight m_got m_setting (nI n) (nI sn) dn m_tape m_letter m_letterAt m_told tp mat stm m_kept him ki crs m_price m_offer m_gets m_yes m_buys m_ends m_carried m_row rm m_keptRow m_likeGets m_likePrice m_ahead, cI aC m_kind 9 kf, cI aC m_figure 9 ff, cI aC m_weight 9 wf, cI aC m_setting 5 stf, cI aC m_price 81 pf, cI aC m_offer 81 of, cI aC m_gets 90 gf, cI aC m_yes 9 yf, cI aC m_buys 9 bf, cI aC m_ends 9 ef, cI aC m_carried 9 cf, cI aC m_refused 7 mr] sz) := by
  refine Met.ofW (cc := cX12_fewest) (maxL := 4) (ret := (some .int)) (by decide) rfl ?_
  intro p e s m args below meth c s₁ B hml hv
  obtain ⟨rfl, hsz, hP, hK, hD0, hN⟩ := hv
  have hx := B.exec
  have hb := B.bytes
  have hr := B.returns
  have hts0 := atoms_spec (ws := (wW yX12_fewest cX12_fewest 4 (some .int))) B.pre
  have hts : ∀ w9 ∈ lw_G, w9.before ([Value.ref g0] : List Value).toArray s = true := fun w9 h9 => hts0 w9 (List.mem_cons_of_mem _ h9)
  have hown : s.vm.findClass RX12 = some m.cls := findClass_of_methodNamed (x := yX12_fewest) B.named
  have hlocks := B.notSynchronized
  subst hsz
  have hD := hD0.self (sz := s.heap.size)
  generalize hAe : va_A [oX12 g0 m_refused m_kind m_figure m_weight m_got m_setting (nI n) (nI sn) dn m_tape m_letter m_letterAt m_told tp mat stm m_kept him ki crs m_price m_offer m_gets m_yes m_buys m_ends m_carried m_row rm m_keptRow m_likeGets m_likePrice m_ahead, cI aC m_kind 9 kf, cI aC m_figure 9 ff, cI aC m_weight 9 wf, cI aC m_setting 5 stf, cI aC m_price 81 pf, cI aC m_offer 81 of, cI aC m_gets 90 gf, cI aC m_yes 9 yf, cI aC m_buys 9 bf, cI aC m_ends 9 ef, cI aC m_carried 9 cf, cI aC m_refused 7 mr] s.heap.size = A at hD ⊢
  have hA : ∀ q : Nat, s.heap.size ≤ q → A q := fun q h => by rw [← hAe]; exact Or.inr h
  obtain ⟨H, hHe⟩ : ∃ H : Heap, H = s.heap := ⟨_, rfl⟩
  have hS : va_S A s.heap H [] := by rw [hHe]; exact va_S.rf
  have hP : va_P (dC, dI) classes [oX12 g0 m_refused m_kind m_figure m_weight m_got m_setting (nI n) (nI sn) dn m_tape m_letter m_letterAt m_told tp mat stm m_kept him ki crs m_price m_offer m_gets m_yes m_buys m_ends m_carried m_row rm m_keptRow m_likeGets m_likePrice m_ahead, cI aC m_kind 9 kf, cI aC m_figure 9 ff, cI aC m_weight 9 wf, cI aC m_setting 5 stf, cI aC m_price 81 pf, cI aC m_offer 81 of, cI aC m_gets 90 gf, cI aC m_yes 9 yf, cI aC m_buys 9 bf, cI aC m_ends 9 ef, cI aC m_carried 9 cf, cI aC m_refused 7 mr] H := by rw [hHe]; exact hP
  have hl := lv_entry ([Value.ref g0]) (n := 4) (Nat.le_of_ble_eq_true rfl)
  rw [lg_entry_eq]
  generalize (lg_sl ([Value.ref g0]) ++ List.replicate (4 - (lg_sl ([Value.ref g0])).length) Slot.unset).toArray = ls at hl ⊢
  have hl : lv_has ls 4 [(0, Value.ref g0)] := hl
  rw [← hHe]
  have hn8 := EVS_n hev
  refine lv_aload_n hx hb dX12_fewest_0 rfl (lv_at hl 0 rfl) ?_
  have hpd9 := pdf_N (cx := [oX12 g0 m_refused m_kind m_figure m_weight m_got m_setting (nI n) (nI sn) dn m_tape m_letter m_letterAt m_told tp mat stm m_kept him ki crs m_price m_offer m_gets m_yes m_buys m_ends m_carried m_row rm m_keptRow m_likeGets m_likePrice m_ahead]) hP hD hS hA [0] (by decide) rfl
  have hPc := hpd9.1
  have hDc := hpd9.2.1
  have hFc := hpd9.2.2
  clear hpd9
  refine va_calli (va_runV (As := []) (rest := []) ⟨hx, hb, hml, hown, hts⟩ (c_X12_isOver l dC dI aC H.size g0 m_refused m_kind m_figure m_weight m_got m_setting m_tape m_letter m_letterAt m_told m_kept m_price m_offer m_gets m_yes m_buys m_ends m_carried m_row m_keptRow m_likeGets m_likePrice m_ahead (nI n) (nI sn) dn tp mat stm him ki crs rm ) ⟨(callB_of 0 hts (gG kw_994) rfl rfl rfl (hts _ (gw kw_13 rfl)) (hts _ (gw kw_991 rfl)) hd_X12_isOver ⟨Nat.le_of_ble_eq_true rfl, Nat.le_of_ble_eq_true rfl⟩), (hts _ (gw kw_993 rfl)), (hts _ (gw ks_58 rfl))⟩ ⟨fb_std, va_recv (q := (RX12, TX12, 33)) hK hPc (ci := 12) (q0 := 0) rfl rfl, pre_std hPc hK hDc hN⟩ rfl rfl hl.1 rfl (lv_room (Nat.le_of_ble_eq_true rfl)) dX12_fewest_1 ⟨Nat.le_of_ble_eq_true rfl, Nat.le_of_ble_eq_true rfl⟩) hS (fun q _ h => hFc q h) hFc (fun x_1 u9 t9 H1 locs ht hvm hw_1 hB hz1 hk1 hS => ?_)
  obtain ⟨hP1, hK1, hD1⟩ := hB
  rw [ht] at hP1
  clear hK1
  try dsimp only at hw_1
  have hpd9 : PDx (dC, dI) classes A H1 [cI aC m_kind 9 kf, cI aC m_figure 9 ff, cI aC m_weight 9 wf, cI aC m_setting 5 stf, cI aC m_price 81 pf, cI aC m_offer 81 of, cI aC m_gets 90 gf, cI aC m_yes 9 yf, cI aC m_buys 9 bf, cI aC m_ends 9 ef, cI aC m_carried 9 cf, cI aC m_refused 7 mr, oX12 g0 m_refused m_kind m_figure m_weight m_got m_setting (nI n) (nI sn) dn m_tape m_letter m_letterAt m_told tp mat stm m_kept him ki crs m_price m_offer m_gets m_yes m_buys m_ends m_carried m_row rm m_keptRow m_likeGets m_likePrice m_ahead] := jn_N (wr := [cI aC m_kind 9 kf, cI aC m_figure 9 ff, cI aC m_weight 9 wf, cI aC m_setting 5 stf, cI aC m_price 81 pf, cI aC m_offer 81 of, cI aC m_gets 90 gf, cI aC m_yes 9 yf, cI aC m_buys 9 bf, cI aC m_ends 9 ef, cI aC m_carried 9 cf, cI aC m_refused 7 mr]) hFc hk1 hP1 hD1 hP hD [0] [1, 2, 3, 4, 5, 6, 7, 8, 9, 10, 11, 12] rfl rfl (by decide) (by decide)
  have hP := hpd9.1
  have hD := hpd9.2
  clear hpd9
  generalize H1 = H at hP hS ⊢
  clear hPc hDc hFc hz1 hk1 hP1 hD1 ht hvm
  have hz_1 := hw_1
  refine lv_if_eq (tgt := 14) hx hb dX12_fewest_4 (by decide) (fun c_2 => ?_) (fun c_2 => ?_)
  · have hov := ovm_n hz_1 c_2
    have hsn := sn_lt hev hov
    refine lv_aload_n hx hb dX12_fewest_14 rfl (lv_at hl 0 rfl) ?_
    refine va_get (D := (dC, dI)) (ci := 12) (v := Value.ref m_setting) (C := RX12) (T := TX12) (N := 33) hx hb hts inX12 hown hK hP 12 rfl rfl 5 (by decide) (hts _ (gw kw_722 rfl)) (fun _ h9 => h9) rfl dX12_fewest_15 ?_
    refine lv_iconst (v := 0) hx hb dX12_fewest_18 (by decide) ?_
    have h_3 : vp_in 0 5 := by unfold vp_in; decide
    refine va_iald hx hb hK hP 3 0 rfl rfl h_3 dX12_fewest_19 ?_
    refine lv_topi (fun x_4 e_4 => ?_)
    have hold : x_4 = stf 0 := by rw [e_4]; rfl
    refine lv_istore_n (lv' := [(1, Value.int x_4), (0, Value.ref g0)]) hx hb dX12_fewest_20 rfl hl (by decide) rfl (fun ls hl => ?_)
    refine lv_bipush (v := -9) hx hb dX12_fewest_21 (by decide) ?_
    refine lv_istore_n (lv' := [(2, Value.int (-9)), (1, Value.int x_4), (0, Value.ref g0)]) hx hb dX12_fewest_23 rfl hl (by decide) rfl (fun ls hl => ?_)
    refine lv_iconst (v := 0) hx hb dX12_fewest_24 (by decide) ?_
    refine lv_istore_n (lv' := [(3, Value.int 0), (2, Value.int (-9)), (1, Value.int x_4), (0, Value.ref g0)]) hx hb dX12_fewest_25 rfl hl (by decide) rfl (fun ls hl => ?_)
    have lp_26 : ∀ (fu : Nat) (cc : Nat) (x2 : Int32) (tsc : Nat → Int32) (pfc : Nat → Int32) (ofc : Nat → Int32) (gfc : Nat → Int32) (yfc : Nat → Int32) (bfc : Nat → Int32) (efc : Nat → Int32) (cfc : Nat → Int32) (hfu : 100 - cc < fu) (hcc : cc ≤ 100) (hsc : ∀ k, k < 5 → 0 < k → tsc k = stf k) (hfi : (x2 = -9 ∧ few n sn K F W0 S5 0 100 = few n sn K F W0 S5 cc (100 - cc)) ∨ (¬ x2 < 0 ∧ x2 = few n sn K F W0 S5 0 100)) (H : Heap) (locs : List Loc) (ls : Array Slot), va_P (dC, dI) classes [cI aC m_kind 9 kf, cI aC m_figure 9 ff, cI aC m_weight 9 wf, cI aC m_setting 5 tsc, cI aC m_price 81 pfc, cI aC m_offer 81 ofc, cI aC m_gets 90 gfc, cI aC m_yes 9 yfc, cI aC m_buys 9 bfc, cI aC m_ends 9 efc, cI aC m_carried 9 cfc, cI aC m_refused 7 mr, oX12 g0 m_refused m_kind m_figure m_weight m_got m_setting (nI n) (nI sn) dn m_tape m_letter m_letterAt m_told tp mat stm m_kept him ki crs m_price m_offer m_gets m_yes m_buys m_ends m_carried m_row rm m_keptRow m_likeGets m_likePrice m_ahead] H → va_D A [cI aC m_kind 9 kf, cI aC m_figure 9 ff, cI aC m_weight 9 wf, cI aC m_setting 5 tsc, cI aC m_price 81 pfc, cI aC m_offer 81 ofc, cI aC m_gets 90 gfc, cI aC m_yes 9 yfc, cI aC m_buys 9 bfc, cI aC m_ends 9 efc, cI aC m_carried 9 cfc, cI aC m_refused 7 mr, oX12 g0 m_refused m_kind m_figure m_weight m_got m_setting (nI n) (nI sn) dn m_tape m_letter m_letterAt m_told tp mat stm m_kept him ki crs m_price m_offer m_gets m_yes m_buys m_ends m_carried m_row rm m_keptRow m_likeGets m_likePrice m_ahead] → va_S A s.heap H locs → lv_has ls 4 [(0, Value.ref g0), (1, Value.int x_4), (2, Value.int x2), (3, Value.int (nI cc))] → W p l e (headSpec (wW yX12_fewest cX12_fewest 4 (some .int)) ({ frames := 5, cells := 0, slots := 0, locals := 115 } : Room)).room s m ([Value.ref g0] : List Value).toArray below meth c H locs 0 0 (MQ below (va_Qi (fun (r : Int32) (u : (Nat → Int32) × (Nat → Int32) × (Nat → Int32) × (Nat → Int32) × (Nat → Int32) × (Nat → Int32) × (Nat → Int32) × (Nat → Int32) × (Nat → Int32)) => match u with | (stf2, pf2, of2, gf2, yf2, bf2, ef2, cf2, mr2) => r = rFew n sn dn K F W0 S5 ∧ ∀ k, k < 5 → stf2 k = stf k) (fun (u : (Nat → Int32) × (Nat → Int32) × (Nat → Int32) × (Nat → Int32) × (Nat → Int32) × (Nat → Int32) × (Nat → Int32) × (Nat → Int32) × (Nat → Int32)) (t : State) => match u with | (stf2, pf2, of2, gf2, yf2, bf2, ef2, cf2, mr2) => va_P (dC, dI) classes [oX12 g0 m_refused m_kind m_figure m_weight m_got m_setting (nI n) (nI sn) dn m_tape m_letter m_letterAt m_told tp mat stm m_kept him ki crs m_price m_offer m_gets m_yes m_buys m_ends m_carried m_row rm m_keptRow m_likeGets m_likePrice m_ahead, cI aC m_kind 9 kf, cI aC m_figure 9 ff, cI aC m_weight 9 wf, cI aC m_setting 5 stf2, cI aC m_price 81 pf2, cI aC m_offer 81 of2, cI aC m_gets 90 gf2, cI aC m_yes 9 yf2, cI aC m_buys 9 bf2, cI aC m_ends 9 ef2, cI aC m_carried 9 cf2, cI aC m_refused 7 mr2] t.heap ∧ va_K (dC, dI) classes (TY aC) t ∧ va_D A [oX12 g0 m_refused m_kind m_figure m_weight m_got m_setting (nI n) (nI sn) dn m_tape m_letter m_letterAt m_told tp mat stm m_kept him ki crs m_price m_offer m_gets m_yes m_buys m_ends m_carried m_row rm m_keptRow m_likeGets m_likePrice m_ahead, cI aC m_kind 9 kf, cI aC m_figure 9 ff, cI aC m_weight 9 wf, cI aC m_setting 5 stf2, cI aC m_price 81 pf2, cI aC m_offer 81 of2, cI aC m_gets 90 gf2, cI aC m_yes 9 yf2, cI aC m_buys 9 bf2, cI aC m_ends 9 ef2, cI aC m_carried 9 cf2, cI aC m_refused 7 mr2]) A) ([Value.ref g0] : List Value).toArray s 0 0 A) (F0 m 26 ls []) := by
      intro fu
      induction fu with
      | zero => intro cc x2 tsc pfc ofc gfc yfc bfc efc cfc hfu; exact absurd hfu (Nat.not_lt_zero _)
      | succ fu ih_26 =>
        intro cc x2 tsc pfc ofc gfc yfc bfc efc cfc hfu hcc hsc hfi H locs ls hP hD hS hl
        refine lv_iload_n hx hb dX12_fewest_26 rfl (lv_at hl 3 rfl) ?_
        refine lv_bipush (v := 99) hx hb dX12_fewest_27 (by decide) ?_
        refine lv_icmp_gt (tgt := 68) hx hb dX12_fewest_29 (by decide) (fun c_5 => ?_) (fun c_5 => ?_)
        · have hres : x2 = few n sn K F W0 S5 0 100 := by
            rcases hfi with ⟨q1, q2⟩ | ⟨-, q2⟩
            · rw [q1, q2, show 100 - cc = 0 from by rcases Nat.lt_or_ge cc 100 with q | q <;> first | exact absurd ((nI_ltI (a := 99) (b := cc) (by omega) (by omega)).mp c_5) (by omega) | omega]; rfl
            · exact q2
          refine lv_aload_n hx hb dX12_fewest_68 rfl (lv_at hl 0 rfl) ?_
          refine va_get (D := (dC, dI)) (ci := 12) (v := Value.ref m_setting) (C := RX12) (T := TX12) (N := 33) hx hb hts inX12 hown hK hP 12 rfl rfl 5 (by decide) (hts _ (gw kw_722 rfl)) (fun _ h9 => h9) rfl dX12_fewest_69 ?_
          refine lv_iconst (v := 0) hx hb dX12_fewest_72 (by decide) ?_
          refine lv_iload_n hx hb dX12_fewest_73 rfl (lv_at hl 1 rfl) ?_
          have h_6 : vp_in 0 5 := by unfold vp_in; decide
          refine va_iast hx hb hK hP hD hS 3 0 rfl rfl h_6 dX12_fewest_74 (fun H locs hP hD hS => ?_)
          obtain ⟨f_7, e_f_7⟩ : ∃ y : Nat → Int32, y = upd tsc (0 : Int32).toNatClampNeg x_4 := ⟨_, rfl⟩
          have hpd9 : PDx (dC, dI) classes A H [cI aC m_kind 9 kf, cI aC m_figure 9 ff, cI aC m_weight 9 wf, cI aC m_setting 5 f_7, cI aC m_price 81 pfc, cI aC m_offer 81 ofc, cI aC m_gets 90 gfc, cI aC m_yes 9 yfc, cI aC m_buys 9 bfc, cI aC m_ends 9 efc, cI aC m_carried 9 cfc, cI aC m_refused 7 mr, oX12 g0 m_refused m_kind m_figure m_weight m_got m_setting (nI n) (nI sn) dn m_tape m_letter m_letterAt m_told tp mat stm m_kept him ki crs m_price m_offer m_gets m_yes m_buys m_ends m_carried m_row rm m_keptRow m_likeGets m_likePrice m_ahead] := by rw [e_f_7]; exact ⟨hP, hD⟩
          have hP := hpd9.1
          have hD := hpd9.2
          clear hpd9
          refine lv_iload_n hx hb dX12_fewest_75 rfl (lv_at hl 2 rfl) ?_
          have hpd9 := pd_N (cx := [oX12 g0 m_refused m_kind m_figure m_weight m_got m_setting (nI n) (nI sn) dn m_tape m_letter m_letterAt m_told tp mat stm m_kept him ki crs m_price m_offer m_gets m_yes m_buys m_ends m_carried m_row rm m_keptRow m_likeGets m_likePrice m_ahead, cI aC m_kind 9 kf, cI aC m_figure 9 ff, cI aC m_weight 9 wf, cI aC m_setting 5 f_7, cI aC m_price 81 pfc, cI aC m_offer 81 ofc, cI aC m_gets 90 gfc, cI aC m_yes 9 yfc, cI aC m_buys 9 bfc, cI aC m_ends 9 efc, cI aC m_carried 9 cfc, cI aC m_refused 7 mr]) hP hD [12, 0, 1, 2, 3, 4, 5, 6, 7, 8, 9, 10, 11] (by decide) rfl
          have hP9 := hpd9.1
          have hD9 := hpd9.2
          refine W.widen (k := 0) (n := 0) (by omega) (by omega) ?_
          exact W.iret (v := x2) hx hb hr (fun t ht hW => ⟨⟨x2, (f_7, pfc, ofc, gfc, yfc, bfc, efc, cfc, mr), rfl, ⟨by rw [hres]; unfold rFew; rw [if_neg hov], fun k hk => by rw [e_f_7, show ((0 : Int32)).toNatClampNeg = 0 from rfl]; by_cases q : k = 0 <;> first | (subst q; rw [pk_us, hold]; done) | (rw [pk_un q]; exact hsc k hk (by omega))⟩, by rw [ht]; exact hP9, va_K.moved hW.alike hK, hD9⟩, hS.F ht⟩) hS.2.2 dX12_fewest_76
        · refine lv_iload_n hx hb dX12_fewest_32 rfl (lv_at hl 2 rfl) ?_
          refine lv_if_ge (tgt := 68) hx hb dX12_fewest_33 (by decide) (fun c_8 => ?_) (fun c_8 => ?_)
          · have hres : x2 = few n sn K F W0 S5 0 100 := by
              rcases hfi with ⟨q1, q2⟩ | ⟨-, q2⟩
              · exact absurd c_8 (by rw [q1]; decide)
              · exact q2
            refine lv_aload_n hx hb dX12_fewest_68 rfl (lv_at hl 0 rfl) ?_
            refine va_get (D := (dC, dI)) (ci := 12) (v := Value.ref m_setting) (C := RX12) (T := TX12) (N := 33) hx hb hts inX12 hown hK hP 12 rfl rfl 5 (by decide) (hts _ (gw kw_722 rfl)) (fun _ h9 => h9) rfl dX12_fewest_69 ?_
            refine lv_iconst (v := 0) hx hb dX12_fewest_72 (by decide) ?_
            refine lv_iload_n hx hb dX12_fewest_73 rfl (lv_at hl 1 rfl) ?_
            have h_9 : vp_in 0 5 := by unfold vp_in; decide
            refine va_iast hx hb hK hP hD hS 3 0 rfl rfl h_9 dX12_fewest_74 (fun H locs hP hD hS => ?_)
            obtain ⟨f_10, e_f_10⟩ : ∃ y : Nat → Int32, y = upd tsc (0 : Int32).toNatClampNeg x_4 := ⟨_, rfl⟩
            have hpd9 : PDx (dC, dI) classes A H [cI aC m_kind 9 kf, cI aC m_figure 9 ff, cI aC m_weight 9 wf, cI aC m_setting 5 f_10, cI aC m_price 81 pfc, cI aC m_offer 81 ofc, cI aC m_gets 90 gfc, cI aC m_yes 9 yfc, cI aC m_buys 9 bfc, cI aC m_ends 9 efc, cI aC m_carried 9 cfc, cI aC m_refused 7 mr, oX12 g0 m_refused m_kind m_figure m_weight m_got m_setting (nI n) (nI sn) dn m_tape m_letter m_letterAt m_told tp mat stm m_kept him ki crs m_price m_offer m_gets m_yes m_buys m_ends m_carried m_row rm m_keptRow m_likeGets m_likePrice m_ahead] := by rw [e_f_10]; exact ⟨hP, hD⟩
            have hP := hpd9.1
            have hD := hpd9.2
            clear hpd9
            refine lv_iload_n hx hb dX12_fewest_75 rfl (lv_at hl 2 rfl) ?_
            have hpd9 := pd_N (cx := [oX12 g0 m_refused m_kind m_figure m_weight m_got m_setting (nI n) (nI sn) dn m_tape m_letter m_letterAt m_told tp mat stm m_kept him ki crs m_price m_offer m_gets m_yes m_buys m_ends m_carried m_row rm m_keptRow m_likeGets m_likePrice m_ahead, cI aC m_kind 9 kf, cI aC m_figure 9 ff, cI aC m_weight 9 wf, cI aC m_setting 5 f_10, cI aC m_price 81 pfc, cI aC m_offer 81 ofc, cI aC m_gets 90 gfc, cI aC m_yes 9 yfc, cI aC m_buys 9 bfc, cI aC m_ends 9 efc, cI aC m_carried 9 cfc, cI aC m_refused 7 mr]) hP hD [12, 0, 1, 2, 3, 4, 5, 6, 7, 8, 9, 10, 11] (by decide) rfl
            have hP9 := hpd9.1
            have hD9 := hpd9.2
            refine W.widen (k := 0) (n := 0) (by omega) (by omega) ?_
            exact W.iret (v := x2) hx hb hr (fun t ht hW => ⟨⟨x2, (f_10, pfc, ofc, gfc, yfc, bfc, efc, cfc, mr), rfl, ⟨by rw [hres]; unfold rFew; rw [if_neg hov], fun k hk => by rw [e_f_10, show ((0 : Int32)).toNatClampNeg = 0 from rfl]; by_cases q : k = 0 <;> first | (subst q; rw [pk_us, hold]; done) | (rw [pk_un q]; exact hsc k hk (by omega))⟩, by rw [ht]; exact hP9, va_K.moved hW.alike hK, hD9⟩, hS.F ht⟩) hS.2.2 dX12_fewest_76
          · have hlt : cc < 100 := by
              rcases Nat.lt_or_ge cc 100 with q | q
              · exact q
              · exact absurd (nI_lt (a := 99) (b := cc) (by omega) (by omega)) c_5
            have hfw : few n sn K F W0 S5 0 100 = few n sn K F W0 S5 cc (100 - cc) := by
              rcases hfi with ⟨-, q⟩ | ⟨q, -⟩
              · exact q
              · exact absurd (Int32.not_lt.mp q) c_8
            refine lv_aload_n hx hb dX12_fewest_36 rfl (lv_at hl 0 rfl) ?_
            refine va_get (D := (dC, dI)) (ci := 12) (v := Value.ref m_setting) (C := RX12) (T := TX12) (N := 33) hx hb hts inX12 hown hK hP 12 rfl rfl 5 (by decide) (hts _ (gw kw_722 rfl)) (fun _ h9 => h9) rfl dX12_fewest_37 ?_
            refine lv_iconst (v := 0) hx hb dX12_fewest_40 (by decide) ?_
            refine lv_iload_n hx hb dX12_fewest_41 rfl (lv_at hl 3 rfl) ?_
            have h_11 : vp_in 0 5 := by unfold vp_in; decide
            refine va_iast hx hb hK hP hD hS 3 0 rfl rfl h_11 dX12_fewest_42 (fun H locs hP hD hS => ?_)
            obtain ⟨f_12, e_f_12⟩ : ∃ y : Nat → Int32, y = upd tsc (0 : Int32).toNatClampNeg (nI cc) := ⟨_, rfl⟩
            have hpd9 : PDx (dC, dI) classes A H [cI aC m_kind 9 kf, cI aC m_figure 9 ff, cI aC m_weight 9 wf, cI aC m_setting 5 f_12, cI aC m_price 81 pfc, cI aC m_offer 81 ofc, cI aC m_gets 90 gfc, cI aC m_yes 9 yfc, cI aC m_buys 9 bfc, cI aC m_ends 9 efc, cI aC m_carried 9 cfc, cI aC m_refused 7 mr, oX12 g0 m_refused m_kind m_figure m_weight m_got m_setting (nI n) (nI sn) dn m_tape m_letter m_letterAt m_told tp mat stm m_kept him ki crs m_price m_offer m_gets m_yes m_buys m_ends m_carried m_row rm m_keptRow m_likeGets m_likePrice m_ahead] := by rw [e_f_12]; exact ⟨hP, hD⟩
            have hP := hpd9.1
            have hD := hpd9.2
            clear hpd9
            have hts9 : ∀ k, k < 5 → f_12 k = if k = 0 then nI cc else stf k := fun k hk => by
              rw [e_f_12, show ((0 : Int32)).toNatClampNeg = 0 from rfl]
              by_cases q : k = 0
              · subst q; rw [pk_us]; rfl
              · rw [pk_un q, if_neg q]; exact hsc k hk (by omega)
            have hev9 := EVS_co hev (by omega) hts9
            refine lv_aload_n hx hb dX12_fewest_43 rfl (lv_at hl 0 rfl) ?_
            have hpd9 := pdf_N (cx := [oX12 g0 m_refused m_kind m_figure m_weight m_got m_setting (nI n) (nI sn) dn m_tape m_letter m_letterAt m_told tp mat stm m_kept him ki crs m_price m_offer m_gets m_yes m_buys m_ends m_carried m_row rm m_keptRow m_likeGets m_likePrice m_ahead, cI aC m_kind 9 kf, cI aC m_figure 9 ff, cI aC m_weight 9 wf, cI aC m_setting 5 f_12, cI aC m_price 81 pfc, cI aC m_offer 81 ofc, cI aC m_gets 90 gfc, cI aC m_yes 9 yfc, cI aC m_buys 9 bfc, cI aC m_ends 9 efc, cI aC m_carried 9 cfc]) hP hD hS hA [12, 0, 1, 2, 3, 4, 5, 6, 7, 8, 9, 10] (by decide) rfl
            have hPc := hpd9.1
            have hDc := hpd9.2.1
            have hFc := hpd9.2.2
            clear hpd9
            refine va_callv (va_runV (As := []) (rest := []) ⟨hx, hb, hml, hown, hts⟩ (c_X12_solvesAll l dC dI aC H.size g0 m_refused m_kind m_figure m_weight m_got m_setting m_tape m_letter m_letterAt m_told m_kept m_price m_offer m_gets m_yes m_buys m_ends m_carried m_row m_keptRow m_likeGets m_likePrice m_ahead (nI sn) dn tp mat stm him ki crs rm n kf ff wf f_12 pfc ofc gfc yfc bfc efc cfc K F W0 ((coS S5 cc) 0) (PO n K F W0 (coS S5 cc)) (hev9.1) (PO_cl hev9)) ⟨(callB_of 0 hts (gG kw_896) rfl rfl rfl (hts _ (gw kw_13 rfl)) (hts _ (gw kw_893 rfl)) hd_X12_solvesAll ⟨Nat.le_of_ble_eq_true rfl, Nat.le_of_ble_eq_true rfl⟩), (hts _ (gw kw_895 rfl)), (hts _ (gw ks_45 rfl))⟩ ⟨fb_std, va_recv (q := (RX12, TX12, 33)) hK hPc (ci := 12) (q0 := 0) rfl rfl, pre_std hPc hK hDc hN⟩ rfl rfl hl.1 rfl (lv_room (Nat.le_of_ble_eq_true rfl)) dX12_fewest_44 ⟨Nat.le_of_ble_eq_true rfl, Nat.le_of_ble_eq_true rfl⟩) hS (fun q _ h => hFc q h) hFc (fun u9 t9 H1 locs ht hvm hw_13 hB hz1 hk1 hS => ?_)
            obtain ⟨u_14, u_15, u_16, u_17, u_18, u_19, u_20⟩ := u9
            obtain ⟨hP1, hK1, hD1⟩ := hB
            rw [ht] at hP1
            clear hK1
            try dsimp only at hw_13
            have hpd9 : PDx (dC, dI) classes A H1 [cI aC m_refused 7 mr, oX12 g0 m_refused m_kind m_figure m_weight m_got m_setting (nI n) (nI sn) dn m_tape m_letter m_letterAt m_told tp mat stm m_kept him ki crs m_price m_offer m_gets m_yes m_buys m_ends m_carried m_row rm m_keptRow m_likeGets m_likePrice m_ahead, cI aC m_kind 9 kf, cI aC m_figure 9 ff, cI aC m_weight 9 wf, cI aC m_setting 5 f_12, cI aC m_price 81 u_14, cI aC m_offer 81 u_15, cI aC m_gets 90 u_16, cI aC m_yes 9 u_17, cI aC m_buys 9 u_18, cI aC m_ends 9 u_19, cI aC m_carried 9 u_20] := jn_N (wr := [cI aC m_refused 7 mr]) hFc hk1 hP1 hD1 hP hD [12, 0, 1, 2, 3, 4, 5, 6, 7, 8, 9, 10] [11] rfl rfl (by decide) (by decide)
            have hP := hpd9.1
            have hD := hpd9.2
            clear hpd9
            generalize H1 = H at hP hS ⊢
            clear hPc hDc hFc hz1 hk1 hP1 hD1 ht hvm
            have hm1 := hw_13
            refine lv_aload_n hx hb dX12_fewest_47 rfl (lv_at hl 0 rfl) ?_
            refine va_get (D := (dC, dI)) (ci := 12) (v := Value.ref m_carried) (C := RX12) (T := TX12) (N := 33) hx hb hts inX12 hown hK hP 1 rfl rfl 26 (by decide) (hts _ (gw kw_743 rfl)) (fun _ h9 => h9) rfl dX12_fewest_48 ?_
            refine lv_aload_n hx hb dX12_fewest_51 rfl (lv_at hl 0 rfl) ?_
            refine va_get (D := (dC, dI)) (ci := 12) (v := Value.int (nI sn)) (C := RX12) (T := TX12) (N := 33) hx hb hts inX12 hown hK hP 1 rfl rfl 7 (by decide) (hts _ (gw kw_724 rfl)) (fun _ h9 => h9) rfl dX12_fewest_52 ?_
            have h_21 : vp_in (nI sn) 9 := by first | exact vp_in_nI (by omega) (by omega) | (unfold vp_in; decide) | (subst_vars; first | (unfold vp_in; decide) | exact vp_in_nI (by omega) (by omega))
            refine va_iald hx hb hK hP 12 0 rfl rfl h_21 dX12_fewest_55 ?_
            refine lv_topi (fun x_22 e_22 => ?_)
            refine lv_iconst (v := 1) hx hb dX12_fewest_56 (by decide) ?_
            refine lv_icmp_ne (tgt := 62) hx hb dX12_fewest_57 (by decide) (fun c_23 => ?_) (fun c_23 => ?_)
            · have hcar := (hm1 sn hsn).2.2.2.2.2.2
              rw [zE_iff hn8 (PO_cl hev9) hsn] at hcar
              have he9 : ¬ zE (PO n K F W0 (coS S5 cc)) sn = nI sn := fun q => c_23 (by rw [e_22, nI_clamp (by omega)]; exact hcar.1 q)
              have hfi2 : (x2 = -9 ∧ few n sn K F W0 S5 0 100 = few n sn K F W0 S5 (cc + 1) (100 - (cc + 1))) ∨ (¬ x2 < 0 ∧ x2 = few n sn K F W0 S5 0 100) := by
                rcases hfi with ⟨q, -⟩ | ⟨q, -⟩
                · exact Or.inl ⟨q, by rw [hfw, few_s hlt, if_neg he9]⟩
                · exact absurd (Int32.not_lt.mp q) c_8
              obtain ⟨x_24, e_24⟩ : ∃ y : Int32, y = (nI cc) + 1 := ⟨_, rfl⟩
              refine lv_iinc (v := x_24) (lv' := [(3, Value.int x_24), (0, Value.ref g0), (1, Value.int x_4), (2, Value.int x2)]) hx hb dX12_fewest_62 hl (k := 3) rfl (by rw [e_24]; rfl) (by decide) rfl (fun ls hl => ?_)
              have h9 : x_24 = nI (cc + 1) := by rw [e_24, nI_1]
              subst h9
              refine lv_goto (tgt := 26) hx hb dX12_fewest_65 (by decide) ?_
              exact ih_26 (cc + 1) x2 f_12 u_14 u_15 u_16 u_17 u_18 u_19 u_20 (by omega) (by omega) (fun k hk h0 => by rw [hts9 k hk, if_neg (by omega)]) (hfi2) _ _ _ (hP.sub [2, 3, 4, 5, 6, 7, 8, 9, 10, 11, 12, 0, 1] rfl) (hD.sub [2, 3, 4, 5, 6, 7, 8, 9, 10, 11, 12, 0, 1] (by decide) rfl) hS (lv_sub hl [1, 2, 3, 0] rfl)
            · refine lv_iload_n hx hb dX12_fewest_60 rfl (lv_at hl 3 rfl) ?_
              refine lv_istore_n (lv' := [(2, Value.int (nI cc)), (0, Value.ref g0), (1, Value.int x_4), (3, Value.int (nI cc))]) hx hb dX12_fewest_61 rfl hl (by decide) rfl (fun ls hl => ?_)
              have hcar := (hm1 sn hsn).2.2.2.2.2.2
              rw [zE_iff hn8 (PO_cl hev9) hsn] at hcar
              have he9 : zE (PO n K F W0 (coS S5 cc)) sn = nI sn := by
                by_cases q : zE (PO n K F W0 (coS S5 cc)) sn = nI sn
                · exact q
                · have h7 := c_23; rw [e_22, nI_clamp (by omega), hcar.2 q] at h7; exact absurd h7 (by decide)
              have hfi2 : (nI cc = -9 ∧ few n sn K F W0 S5 0 100 = few n sn K F W0 S5 (cc + 1) (100 - (cc + 1))) ∨ (¬ nI cc < 0 ∧ nI cc = few n sn K F W0 S5 0 100) := Or.inr ⟨nI_pos (by omega), by rw [hfw, few_s hlt, if_pos he9]⟩
              obtain ⟨x_25, e_25⟩ : ∃ y : Int32, y = (nI cc) + 1 := ⟨_, rfl⟩
              refine lv_iinc (v := x_25) (lv' := [(3, Value.int x_25), (2, Value.int (nI cc)), (0, Value.ref g0), (1, Value.int x_4)]) hx hb dX12_fewest_62 hl (k := 3) rfl (by rw [e_25]; rfl) (by decide) rfl (fun ls hl => ?_)
              have h9 : x_25 = nI (cc + 1) := by rw [e_25, nI_1]
              subst h9
              refine lv_goto (tgt := 26) hx hb dX12_fewest_65 (by decide) ?_
              exact ih_26 (cc + 1) (nI cc) f_12 u_14 u_15 u_16 u_17 u_18 u_19 u_20 (by omega) (by omega) (fun k hk h0 => by rw [hts9 k hk, if_neg (by omega)]) (hfi2) _ _ _ (hP.sub [2, 3, 4, 5, 6, 7, 8, 9, 10, 11, 12, 0, 1] rfl) (hD.sub [2, 3, 4, 5, 6, 7, 8, 9, 10, 11, 12, 0, 1] (by decide) rfl) hS (lv_sub hl [2, 3, 1, 0] rfl)
    exact lp_26 ((100 - 0) + 1) 0 (-9) stf pf of gf yf bf ef cf (Nat.lt_succ_self _) (by omega) (fun k hk _ => rfl) (Or.inl ⟨rfl, rfl⟩) _ _ _ (hP.sub [0, 1, 2, 3, 4, 5, 6, 7, 8, 9, 10, 11, 12] rfl) (hD.sub [0, 1, 2, 3, 4, 5, 6, 7, 8, 9, 10, 11, 12] (by decide) rfl) hS (lv_sub hl [3, 2, 1, 0] rfl)
  · refine lv_aload_n hx hb dX12_fewest_7 rfl (lv_at hl 0 rfl) ?_
    refine lv_bipush (v := -3) hx hb dX12_fewest_8 (by decide) ?_
    have hpd9 := pdf_N (cx := [oX12 g0 m_refused m_kind m_figure m_weight m_got m_setting (nI n) (nI sn) dn m_tape m_letter m_letterAt m_told tp mat stm m_kept him ki crs m_price m_offer m_gets m_yes m_buys m_ends m_carried m_row rm m_keptRow m_likeGets m_likePrice m_ahead, cI aC m_refused 7 mr]) hP hD hS hA [12, 11] (by decide) rfl
    have hPc := hpd9.1
    have hDc := hpd9.2.1
    have hFc := hpd9.2.2
    clear hpd9
    refine va_calli (va_runV (As := [Value.int (-3)]) (rest := []) ⟨hx, hb, hml, hown, hts⟩ (c_X12_no l dC dI aC H.size g0 m_refused m_kind m_figure m_weight m_got m_setting m_tape m_letter m_letterAt m_told m_kept m_price m_offer m_gets m_yes m_buys m_ends m_carried m_row m_keptRow m_likeGets m_likePrice m_ahead (nI n) (nI sn) dn tp mat stm him ki crs rm (-3) 3 mr (by decide) (by unfold vp_in; decide)) ⟨(callB_of 1 hts (gG kw_827) rfl rfl rfl (hts _ (gw kw_13 rfl)) (hts _ (gw kw_824 rfl)) hd_X12_no ⟨Nat.le_of_ble_eq_true rfl, Nat.le_of_ble_eq_true rfl⟩), (hts _ (gw kw_826 rfl)), (hts _ (gw ks_35 rfl))⟩ ⟨fb_std, va_recv (q := (RX12, TX12, 33)) hK hPc (ci := 12) (q0 := 0) rfl rfl, pre_std hPc hK hDc hN⟩ rfl rfl hl.1 rfl (lv_room (Nat.le_of_ble_eq_true rfl)) dX12_fewest_10 ⟨Nat.le_of_ble_eq_true rfl, Nat.le_of_ble_eq_true rfl⟩) hS (fun q _ h => hFc q h) hFc (fun x_26 u9 t9 H1 locs ht hvm hw_26 hB hz1 hk1 hS => ?_)
    obtain ⟨u_27, rfl⟩ : ∃ z, z = u9 := ⟨_, rfl⟩
    obtain ⟨hP1, hK1, hD1⟩ := hB
    rw [ht] at hP1
    clear hK1
    try dsimp only at hw_26
    have hpd9 : PDx (dC, dI) classes A H1 [cI aC m_kind 9 kf, cI aC m_figure 9 ff, cI aC m_weight 9 wf, cI aC m_setting 5 stf, cI aC m_price 81 pf, cI aC m_offer 81 of, cI aC m_gets 90 gf, cI aC m_yes 9 yf, cI aC m_buys 9 bf, cI aC m_ends 9 ef, cI aC m_carried 9 cf, oX12 g0 m_refused m_kind m_figure m_weight m_got m_setting (nI n) (nI sn) dn m_tape m_letter m_letterAt m_told tp mat stm m_kept him ki crs m_price m_offer m_gets m_yes m_buys m_ends m_carried m_row rm m_keptRow m_likeGets m_likePrice m_ahead, cI aC m_refused 7 u_27] := jn_N (wr := [cI aC m_kind 9 kf, cI aC m_figure 9 ff, cI aC m_weight 9 wf, cI aC m_setting 5 stf, cI aC m_price 81 pf, cI aC m_offer 81 of, cI aC m_gets 90 gf, cI aC m_yes 9 yf, cI aC m_buys 9 bf, cI aC m_ends 9 ef, cI aC m_carried 9 cf]) hFc hk1 hP1 hD1 hP hD [12, 11] [0, 1, 2, 3, 4, 5, 6, 7, 8, 9, 10] rfl rfl (by decide) (by decide)
    have hP := hpd9.1
    have hD := hpd9.2
    clear hpd9
    generalize H1 = H at hP hS ⊢
    clear hPc hDc hFc hz1 hk1 hP1 hD1 ht hvm
    obtain ⟨hv9, -⟩ := hw_26
    have hpd9 := pd_N (cx := [oX12 g0 m_refused m_kind m_figure m_weight m_got m_setting (nI n) (nI sn) dn m_tape m_letter m_letterAt m_told tp mat stm m_kept him ki crs m_price m_offer m_gets m_yes m_buys m_ends m_carried m_row rm m_keptRow m_likeGets m_likePrice m_ahead, cI aC m_kind 9 kf, cI aC m_figure 9 ff, cI aC m_weight 9 wf, cI aC m_setting 5 stf, cI aC m_price 81 pf, cI aC m_offer 81 of, cI aC m_gets 90 gf, cI aC m_yes 9 yf, cI aC m_buys 9 bf, cI aC m_ends 9 ef, cI aC m_carried 9 cf, cI aC m_refused 7 u_27]) hP hD [11, 0, 1, 2, 3, 4, 5, 6, 7, 8, 9, 10, 12] (by decide) rfl
    have hP9 := hpd9.1
    have hD9 := hpd9.2
    refine W.widen (k := 0) (n := 0) (by omega) (by omega) ?_
    exact W.iret (v := x_26) hx hb hr (fun t ht hW => ⟨⟨x_26, (stf, pf, of, gf, yf, bf, ef, cf, u_27), rfl, ⟨by rw [hv9]; unfold rFew; rw [if_pos (ovm_y hn8 hz_1 c_2)], fun k _ => rfl⟩, by rw [ht]; exact hP9, va_K.moved hW.alike hK, hD9⟩, hS.F ht⟩) hS.2.2 dX12_fewest_13
