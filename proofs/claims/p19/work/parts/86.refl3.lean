theorem lsp_nd {t x : Nat} (ht : t = 1 ∨ t = 2 ∨ t = 3 ∨ t = 5) (h : ¬ (48 ≤ x ∧ x ≤ 57)) : lsp t x = 9 := by
  rcases ht with e | e | e | e <;> subst e
  · rw [lsp_1, if_neg h]
  · rw [lsp_2, if_neg h]
  · rw [lsp_3, if_neg h]
  · rw [lsp_5, if_neg h]
theorem fl_0 {L : Nat → Nat} {lz a : Nat} (ha : a ≤ lz) (h0 : lrn L a = 0) (haz : a < lz ∨ a = 0) (hn : ¬ (a < lz ∧ L a = 109) ∧ ¬ (a < lz ∧ L a = 99) ∧ ¬ (a < lz ∧ L a = 108)) : FLP L lz a :=
  flp_of ha h0 (by decide) (fun z => by rw [lsp_0, if_neg (fun y => y.elim (fun w => hn.1 ⟨z, w⟩) (fun w => hn.2.2 ⟨z, w⟩)), if_neg (fun w => hn.2.1 ⟨z, w⟩)]) (fun z => Or.inr (by omega))
theorem r_c1 {L : Nat → Nat} {a : Nat} (h0 : lrn L a = 0) (hb : L a = 99) : lrn L (a + 1) = 5 := by rw [lrn_s h0, lsp_0, if_neg (by omega), if_pos hb]
theorem r_m1 {L : Nat → Nat} {a : Nat} (h0 : lrn L a = 0) (hb : L a = 109 ∨ L a = 108) : lrn L (a + 1) = 1 := by rw [lrn_s h0, lsp_0, if_pos hb]
theorem fl_c1 {L : Nat → Nat} {lz a : Nat} (h0 : lrn L a = 0) (hb : L a = 99) (ha : a < lz) (hn : ¬ dgc L lz (a + 1)) : FLP L lz (a + 1) :=
  flp_of (by omega) (r_c1 h0 hb) (by decide) (fun z => lsp_nd (by omega) (ndg hn z)) (fun _ => Or.inl (by decide))
theorem fl_m {L : Nat → Nat} {lz a k : Nat} (h : lrn L (a + 1 + k) = 1 + k) (hk : k < 3) (hq : a + 1 + k ≤ lz) (hn : ¬ dgc L lz (a + 1 + k)) : FLP L lz (a + 1 + k) :=
  flp_of hq h (by omega) (fun z => lsp_nd (by omega) (ndg hn z)) (fun _ => Or.inl (by omega))
theorem r_m {L : Nat → Nat} {a k : Nat} (h : lrn L (a + 1 + k) = 1 + k) (hk : k < 3) (hd : dig (L (a + 1 + k))) : lrn L (a + 1 + (k + 1)) = 1 + (k + 1) := by
  show lrn L (a + 1 + k + 1) = _
  rw [lrn_s h]
  rcases (show k = 0 ∨ k = 1 ∨ k = 2 by omega) with e | e | e <;> subst e
  · show lsp 1 _ = _; rw [lsp_1, if_pos (dig_d hd)]
  · show lsp 2 _ = _; rw [lsp_2, if_pos (dig_d hd)]
  · show lsp 3 _ = _; rw [lsp_3, if_pos (dig_d hd)]
theorem r_c2 {L : Nat → Nat} {lz a k : Nat} (h0 : lrn L a = 0) (hb : L a = 99) (k1 : 1 ≤ k) (k2 : k ≤ 2) (k3 : ∀ i, i < k → dgc L lz (a + 1 + i)) : lrn L (a + 1 + k) = if k = 2 then 4 else 6 := by
  have r2 : lrn L (a + 2) = 6 := by rw [lrn_s (r_c1 h0 hb), lsp_5, if_pos (dig_d (k3 0 (by omega)).2)]
  by_cases e : k = 2
  · subst e
    rw [if_pos rfl]
    show lrn L (a + 2 + 1) = 4
    rw [lrn_s r2, lsp_6, if_pos (dig_d (k3 1 (by omega)).2)]
  · have e1 : k = 1 := by omega
    subst e1
    rw [if_neg e]; exact r2
theorem fl_c2 {L : Nat → Nat} {lz a k : Nat} (h0 : lrn L a = 0) (hb : L a = 99) (k1 : 1 ≤ k) (k2 : k ≤ 2) (k3 : ∀ i, i < k → dgc L lz (a + 1 + i)) (k4 : k = 2 ∨ ¬ dgc L lz (a + 1 + k)) (hx : ¬ (a + 1 + k < lz ∧ L (a + 1 + k) = 59)) : FLP L lz (a + 1 + k) := by
  have hq := (k3 (k - 1) (by omega)).1
  have hr := r_c2 h0 hb k1 k2 k3
  by_cases e : k = 2
  · rw [if_pos e] at hr
    exact flp_of (by omega) hr (by decide) (fun z => by rw [lsp_4, if_neg (fun y => hx ⟨z, y⟩)]) (fun _ => Or.inl (by decide))
  · rw [if_neg e] at hr
    exact flp_of (by omega) hr (by decide) (fun z => by rw [lsp_6, if_neg (ndg (k4.resolve_left e) z), if_neg (fun y => hx ⟨z, y⟩)]) (fun _ => Or.inl (by decide))
theorem fl_m2 {L : Nat → Nat} {lz q : Nat} (h : lrn L q = 4) (hq : q ≤ lz) (hx : ¬ (q < lz ∧ L q = 59)) : FLP L lz q :=
  flp_of hq h (by decide) (fun z => by rw [lsp_4, if_neg (fun y => hx ⟨z, y⟩)]) (fun _ => Or.inl (by decide))
theorem ok_c {L : Nat → Nat} {lz a k : Nat} (hb : L a = 99) (k1 : 1 ≤ k) (k2 : k ≤ 2) (k3 : ∀ i, i < k → dgc L lz (a + 1 + i)) : STM L a (a + 1 + k) ∧ rdv L (a + 1) k = lC L a (a + 1 + k) := by
  have d1 := (k3 0 (by omega)).2
  by_cases e : k = 2
  · subst e
    have d2 := (k3 1 (by omega)).2
    refine ⟨Or.inr ⟨hb, Or.inr ⟨rfl, d1, d2⟩⟩, ?_⟩
    unfold lC
    rw [if_pos (by omega)]
    show 10 * (10 * 0 + (L (a + 1 + 0) - 48)) + (L (a + 1 + 1) - 48) = _
    rw [Nat.mul_zero, Nat.zero_add]
  · have e1 : k = 1 := by omega
    subst e1
    refine ⟨Or.inr ⟨hb, Or.inl ⟨rfl, d1⟩⟩, ?_⟩
    unfold lC
    rw [if_neg (by omega)]
    show 10 * 0 + (L (a + 1 + 0) - 48) = _
    rw [Nat.mul_zero, Nat.zero_add]
theorem tl_c {L : Nat → Nat} {s e k : Nat} {td td2 : Nat → Int32} {v : Nat} (hb : L s = 99) (hv : v = lC L s e) (h : td2 = upd td (3 * k) (nI v)) : TLD L s e k td2 ∧ ∀ j, j < 3 * k → td2 j = td j := by
  refine ⟨⟨fun q => by omega, fun _ => by rw [h, pk_us, hv]⟩, fun j hj => by rw [h, pk_un (by omega)]⟩
theorem tl_m {L : Nat → Nat} {s e k : Nat} {td2 : Nat → Int32} (hb : L s = 109 ∨ L s = 108) (h : ∀ i, i < 3 → dig (L (s + 1 + i)) ∧ td2 (3 * k + i) = nI (L (s + 1 + i) - 48)) : STM L s (s + 4) ∧ TLD L s e k td2 :=
  ⟨Or.inl ⟨hb, rfl, (h 0 (by omega)).1, (h 1 (by omega)).1, (h 2 (by omega)).1⟩, fun _ i hi => (h i hi).2, fun q => by omega⟩
theorem td_s {L : Nat → Nat} {lz a k kk x : Nat} {td td2 tdf : Nat → Int32} (h : ∀ i, i < k → dig (L (a + 1 + i)) ∧ td (3 * kk + i) = nI (L (a + 1 + i) - 48)) (hf : ∀ j, j < 3 * kk → td j = tdf j) (hx : x = 1) (hd : ∀ i, i < x → dgc L lz (a + 1 + k + i)) (h2 : td2 = upd td (3 * kk + k) (nI (rdv L (a + 1 + k) x))) : (∀ i, i < k + 1 → dig (L (a + 1 + i)) ∧ td2 (3 * kk + i) = nI (L (a + 1 + i) - 48)) ∧ ∀ j, j < 3 * kk → td2 j = tdf j := by
  subst hx
  have hv : rdv L (a + 1 + k) 1 = L (a + 1 + k) - 48 := by
    show 10 * 0 + (L (a + 1 + k + 0) - 48) = _
    rw [Nat.mul_zero, Nat.zero_add]; rfl
  refine ⟨fun i hi => ?_, fun j hj => by rw [h2, pk_un (by omega)]; exact hf j hj⟩
  by_cases e : i = k
  · subst e; rw [h2, pk_us, hv]; exact ⟨(hd 0 (by omega)).2, rfl⟩
  · rw [h2, pk_un (by omega)]; exact h i (by omega)

set_option maxHeartbeats 1000000 in
set_option maxRecDepth 100000 in
/-- X12_statement -/
theorem c_X12_statement (l : Launch) (dC : Nat → ClassId) (dI : Nat → Nat → Nat) (aC : Nat → ClassId) (sz : Nat) (g0 : Nat) (m_refused : Nat) (m_kind : Nat) (m_figure : Nat) (m_weight : Nat) (m_got : Nat) (m_setting : Nat) (m_tape : Nat) (m_letter : Nat) (m_letterAt : Nat) (m_told : Nat) (m_kept : Nat) (m_price : Nat) (m_offer : Nat) (m_gets : Nat) (m_yes : Nat) (m_buys : Nat) (m_ends : Nat) (m_carried : Nat) (m_row : Nat) (m_keptRow : Nat) (m_likeGets : Nat) (m_likePrice : Nat) (m_ahead : Nat) (men : Int32) (msy : Int32) (mdn : Int32) (him : Int32) (ki : Int32) (crs : Int32) (rm : Int32) (lz : Nat) (aa : Nat) (kk : Nat) (Lt : Nat → Nat) (tpf : Nat → Int32) (lf : Nat → Int32) (laf : Nat → Int32) (tdf : Nat → Int32) (hlt0 : LTR lz Lt tpf) (haa : aa ≤ lz) (h0 : lrn Lt aa = 0) (haz : aa < lz ∨ aa = 0) (hkk : 3 * kk ≤ aa) : Met l yX12_statement (wW yX12_statement cX12_statement 4 (some .boolean)) ({ frames := 2, cells := 0, slots := 0, locals := 46 } : Room) (va_Pc [Value.ref g0] (fun U => U.heap.size = sz ∧ va_P (dC, dI) classes [oX12 g0 m_refused m_kind m_figure m_weight m_got m_setting men msy mdn m_tape m_letter m_letterAt m_told (nI lz) (nI aa) (nI kk) m_kept him ki crs m_price m_offer m_gets m_yes m_buys m_ends m_carried m_row rm m_keptRow m_likeGets m_likePrice m_ahead, cI aC m_tape 64 tpf, cI aC m_letter 32 lf, cI aC m_letterAt 32 laf, cI aC m_told 96 tdf] U.heap ∧ va_K (dC, dI) classes (TY aC) U ∧ va_D (fun _ => True) [oX12 g0 m_refused m_kind m_figure m_weight m_got m_setting men msy mdn m_tape m_letter m_letterAt m_told (nI lz) (nI aa) (nI kk) m_kept him ki crs m_price m_offer m_gets m_yes m_buys m_ends m_carried m_row rm m_keptRow m_likeGets m_likePrice m_ahead, cI aC m_tape 64 tpf, cI aC m_letter 32 lf, cI aC m_letterAt 32 laf, cI aC m_told 96 tdf] ∧ NX U)) (va_Qi (fun (r : Int32) (u : Int32 × (Nat → Int32) × (Nat → Int32) × (Nat → Int32)) => match u with | (at2, lf2, laf2, td2) => (r = 0 → ∃ q, FLP Lt lz q ∧ at2 = nI q) ∧ (¬ r = 0 → ∃ q, STM Lt aa q ∧ q < lz ∧ Lt q = 59 ∧ at2 = nI (q + 1) ∧ lf2 = upd lf kk (nI (Lt aa)) ∧ laf2 = upd laf kk (nI aa) ∧ TLD Lt aa q kk td2 ∧ ∀ j, j < 3 * kk → td2 j = tdf j)) (fun (u : Int32 × (Nat → Int32) × (Nat → Int32) × (Nat → Int32)) (t : State) => match u with | (at2, lf2, laf2, td2) => va_P (dC, dI) classes [oX12 g0 m_refused m_kind m_figure m_weight m_got m_setting men msy mdn m_tape m_letter m_letterAt m_told (nI lz) at2 (nI kk) m_kept him ki crs m_price m_offer m_gets m_yes m_buys m_ends m_carried m_row rm m_keptRow m_likeGets m_likePrice m_ahead, cI aC m_tape 64 tpf, cI aC m_letter 32 lf2, cI aC m_letterAt 32 laf2, cI aC m_told 96 td2] t.heap ∧ va_K (dC, dI) classes (TY aC) t ∧ va_D (va_A [oX12 g0 m_refused m_kind m_figure m_weight m_got m_setting men msy mdn m_tape m_letter m_letterAt m_told (nI lz) (nI aa) (nI kk) m_kept him ki crs m_price m_offer m_gets m_yes m_buys m_ends m_carried m_row rm m_keptRow m_likeGets m_likePrice m_ahead, cI aC m_tape 64 tpf, cI aC m_letter 32 lf, cI aC m_letterAt 32 laf, cI aC m_told 96 tdf] sz) [oX12 g0 m_refused m_kind m_figure m_weight m_got m_setting men msy mdn m_tape m_letter m_letterAt m_told (nI lz) at2 (nI kk) m_kept him ki crs m_price m_offer m_gets m_yes m_buys m_ends m_carried m_row rm m_keptRow m_likeGets m_likePrice m_ahead, cI aC m_tape 64 tpf, cI aC m_letter 32 lf2, cI aC m_letterAt 32 laf2, cI aC m_told 96 td2]) (va_A [oX12 g0 m_refused m_kind m_figure m_weight m_got m_setting men msy mdn m_tape m_letter m_letterAt m_told (nI lz) (nI aa) (nI kk) m_kept him ki crs m_price m_offer m_gets m_yes m_buys m_ends m_carried m_row rm m_keptRow m_likeGets m_likePrice m_ahead, cI aC m_tape 64 tpf, cI aC m_letter 32 lf, cI aC m_letterAt 32 laf, cI aC m_told 96 tdf] sz)) 0 0 (va_A [oX12 g0 m_refused m_kind m_figure m_weight m_got m_setting men msy mdn m_tape m_letter m_letterAt m_told (nI lz) (nI aa) (nI kk) m_kept him ki crs m_price m_offer m_gets m_yes m_buys m_ends m_carried m_row rm m_keptRow m_likeGets m_likePrice m_ahead, cI aC m_tape 64 tpf, cI aC m_letter 32 lf, cI aC m_letterAt 32 laf, cI aC m_told 96 tdf] sz) := by
  refine Met.ofW (cc := cX12_statement) (maxL := 4) (ret := (some .boolean)) (by decide) rfl ?_
  intro p e s m args below meth c s₁ B hml hv
  obtain ⟨rfl, hsz, hP, hK, hD0, hN⟩ := hv
  have hx := B.exec
  have hb := B.bytes
  have hr := B.returns
  have hts0 := atoms_spec (ws := (wW yX12_statement cX12_statement 4 (some .boolean))) B.pre
  have hts : ∀ w9 ∈ lw_G, w9.before ([Value.ref g0] : List Value).toArray s = true := fun w9 h9 => hts0 w9 (List.mem_cons_of_mem _ h9)
  have hown : s.vm.findClass RX12 = some m.cls := findClass_of_methodNamed (x := yX12_statement) B.named
  have hlocks := B.notSynchronized
  subst hsz
  have hD := hD0.self (sz := s.heap.size)
  generalize hAe : va_A [oX12 g0 m_refused m_kind m_figure m_weight m_got m_setting men msy mdn m_tape m_letter m_letterAt m_told (nI lz) (nI aa) (nI kk) m_kept him ki crs m_price m_offer m_gets m_yes m_buys m_ends m_carried m_row rm m_keptRow m_likeGets m_likePrice m_ahead, cI aC m_tape 64 tpf, cI aC m_letter 32 lf, cI aC m_letterAt 32 laf, cI aC m_told 96 tdf] s.heap.size = A at hD ⊢
  have hA : ∀ q : Nat, s.heap.size ≤ q → A q := fun q h => by rw [← hAe]; exact Or.inr h
  obtain ⟨H, hHe⟩ : ∃ H : Heap, H = s.heap := ⟨_, rfl⟩
  have hS : va_S A s.heap H [] := by rw [hHe]; exact va_S.rf
  have hP : va_P (dC, dI) classes [oX12 g0 m_refused m_kind m_figure m_weight m_got m_setting men msy mdn m_tape m_letter m_letterAt m_told (nI lz) (nI aa) (nI kk) m_kept him ki crs m_price m_offer m_gets m_yes m_buys m_ends m_carried m_row rm m_keptRow m_likeGets m_likePrice m_ahead, cI aC m_tape 64 tpf, cI aC m_letter 32 lf, cI aC m_letterAt 32 laf, cI aC m_told 96 tdf] H := by rw [hHe]; exact hP
  have hl := lv_entry ([Value.ref g0]) (n := 4) (Nat.le_of_ble_eq_true rfl)
  rw [lg_entry_eq]
  generalize (lg_sl ([Value.ref g0]) ++ List.replicate (4 - (lg_sl ([Value.ref g0])).length) Slot.unset).toArray = ls at hl ⊢
  have hl : lv_has ls 4 [(0, Value.ref g0)] := hl
  rw [← hHe]
  have hz6 := hlt0.1
  have hL := hlt0.2
  have hL2 : ∀ k, k < lz → Lt k ≤ 255 := fun k hk => (hL k hk).2
  refine lv_aload_n hx hb dX12_statement_0 rfl (lv_at hl 0 rfl) ?_
  have hpd9 := pdf_N (cx := [oX12 g0 m_refused m_kind m_figure m_weight m_got m_setting men msy mdn m_tape m_letter m_letterAt m_told (nI lz) (nI aa) (nI kk) m_kept him ki crs m_price m_offer m_gets m_yes m_buys m_ends m_carried m_row rm m_keptRow m_likeGets m_likePrice m_ahead, cI aC m_tape 64 tpf]) hP hD hS hA [0, 1] (by decide) rfl
  have hPc := hpd9.1
  have hDc := hpd9.2.1
  have hFc := hpd9.2.2
  clear hpd9
  refine va_calli (va_runV (As := []) (rest := []) ⟨hx, hb, hml, hown, hts⟩ (c_X12_next l dC dI aC H.size g0 m_refused m_kind m_figure m_weight m_got m_setting m_tape m_letter m_letterAt m_told m_kept m_price m_offer m_gets m_yes m_buys m_ends m_carried m_row m_keptRow m_likeGets m_likePrice m_ahead men msy mdn (nI kk) him ki crs rm lz aa Lt tpf (hlt0) (by omega)) ⟨(callB_of 0 hts (gG kw_839) rfl rfl rfl (hts _ (gw kw_13 rfl)) (hts _ (gw kw_836 rfl)) hd_X12_next ⟨Nat.le_of_ble_eq_true rfl, Nat.le_of_ble_eq_true rfl⟩), (hts _ (gw kw_838 rfl)), (hts _ (gw ks_37 rfl))⟩ ⟨fb_std, va_recv (q := (RX12, TX12, 33)) hK hPc (ci := 12) (q0 := 0) rfl rfl, pre_std hPc hK hDc hN⟩ rfl rfl hl.1 rfl (lv_room (Nat.le_of_ble_eq_true rfl)) dX12_statement_1 ⟨Nat.le_of_ble_eq_true rfl, Nat.le_of_ble_eq_true rfl⟩) hS (fun q _ h => hFc q h) hFc (fun x_1 u9 t9 H1 locs ht hvm hw_1 hB hz1 hk1 hS => ?_)
  obtain ⟨hP1, hK1, hD1⟩ := hB
  rw [ht] at hP1
  clear hK1
  try dsimp only at hw_1
  have hpd9 : PDx (dC, dI) classes A H1 [cI aC m_letter 32 lf, cI aC m_letterAt 32 laf, cI aC m_told 96 tdf, oX12 g0 m_refused m_kind m_figure m_weight m_got m_setting men msy mdn m_tape m_letter m_letterAt m_told (nI lz) (nI aa) (nI kk) m_kept him ki crs m_price m_offer m_gets m_yes m_buys m_ends m_carried m_row rm m_keptRow m_likeGets m_likePrice m_ahead, cI aC m_tape 64 tpf] := jn_N (wr := [cI aC m_letter 32 lf, cI aC m_letterAt 32 laf, cI aC m_told 96 tdf]) hFc hk1 hP1 hD1 hP hD [0, 1] [2, 3, 4] rfl rfl (by decide) (by decide)
  have hP := hpd9.1
  have hD := hpd9.2
  clear hpd9
  generalize H1 = H at hP hS ⊢
  clear hPc hDc hFc hz1 hk1 hP1 hD1 ht hvm
  have hz_1 := hw_1
  refine lv_istore_n (lv' := [(1, Value.int x_1), (0, Value.ref g0)]) hx hb dX12_statement_4 rfl hl (by decide) rfl (fun ls hl => ?_)
  refine lv_iload_n hx hb dX12_statement_5 rfl (lv_at hl 0 rfl) ?_
  refine lv_bipush (v := 109) hx hb dX12_statement_6 (by decide) ?_
  refine lv_icmp_eq (tgt := 25) hx hb dX12_statement_8 (by decide) (fun c_2 => ?_) (fun c_2 => ?_)
  · have hb : aa < lz ∧ Lt aa = 109 := (nx_k (k := 109) hL2 (by omega) hz_1).mp c_2
    obtain ⟨hb1, hb2⟩ := hb
    have h9 : x_1 = nI (Lt aa) := by rw [hz_1]; unfold nxt; rw [if_pos hb1]
    subst h9
    refine lv_aload_n hx hb dX12_statement_25 rfl (lv_at hl 1 rfl) ?_
    refine va_get (D := (dC, dI)) (ci := 12) (v := Value.ref m_letter) (C := RX12) (T := TX12) (N := 33) hx hb hts inX12 hown hK hP 3 rfl rfl 10 (by decide) (hts _ (gw kw_727 rfl)) (fun _ h9 => h9) rfl dX12_statement_26 ?_
    refine lv_aload_n hx hb dX12_statement_29 rfl (lv_at hl 1 rfl) ?_
    refine va_get (D := (dC, dI)) (ci := 12) (v := Value.int (nI kk)) (C := RX12) (T := TX12) (N := 33) hx hb hts inX12 hown hK hP 3 rfl rfl 15 (by decide) (hts _ (gw kw_732 rfl)) (fun _ h9 => h9) rfl dX12_statement_30 ?_
    refine lv_iload_n hx hb dX12_statement_33 rfl (lv_at hl 0 rfl) ?_
    have h_3 : vp_in (nI kk) 32 := vp_in_nI (by omega) (by omega)
    refine va_iast hx hb hK hP hD hS 0 0 rfl rfl h_3 dX12_statement_34 (fun H locs hP hD hS => ?_)
    obtain ⟨f_4, e_f_4⟩ : ∃ y : Nat → Int32, y = upd lf (nI kk : Int32).toNatClampNeg (nI (Lt aa)) := ⟨_, rfl⟩
    have hpd9 : PDx (dC, dI) classes A H [cI aC m_letter 32 f_4, cI aC m_letterAt 32 laf, cI aC m_told 96 tdf, oX12 g0 m_refused m_kind m_figure m_weight m_got m_setting men msy mdn m_tape m_letter m_letterAt m_told (nI lz) (nI aa) (nI kk) m_kept him ki crs m_price m_offer m_gets m_yes m_buys m_ends m_carried m_row rm m_keptRow m_likeGets m_likePrice m_ahead, cI aC m_tape 64 tpf] := by rw [e_f_4]; exact ⟨hP, hD⟩
    have hP := hpd9.1
    have hD := hpd9.2
    clear hpd9
    refine lv_aload_n hx hb dX12_statement_35 rfl (lv_at hl 1 rfl) ?_
    refine va_get (D := (dC, dI)) (ci := 12) (v := Value.ref m_letterAt) (C := RX12) (T := TX12) (N := 33) hx hb hts inX12 hown hK hP 3 rfl rfl 11 (by decide) (hts _ (gw kw_728 rfl)) (fun _ h9 => h9) rfl dX12_statement_36 ?_
    refine lv_aload_n hx hb dX12_statement_39 rfl (lv_at hl 1 rfl) ?_
    refine va_get (D := (dC, dI)) (ci := 12) (v := Value.int (nI kk)) (C := RX12) (T := TX12) (N := 33) hx hb hts inX12 hown hK hP 3 rfl rfl 15 (by decide) (hts _ (gw kw_732 rfl)) (fun _ h9 => h9) rfl dX12_statement_40 ?_
    refine lv_aload_n hx hb dX12_statement_43 rfl (lv_at hl 1 rfl) ?_
    refine va_get (D := (dC, dI)) (ci := 12) (v := Value.int (nI aa)) (C := RX12) (T := TX12) (N := 33) hx hb hts inX12 hown hK hP 3 rfl rfl 14 (by decide) (hts _ (gw kw_731 rfl)) (fun _ h9 => h9) rfl dX12_statement_44 ?_
    have h_5 : vp_in (nI kk) 32 := vp_in_nI (by omega) (by omega)
    refine va_iast hx hb hK hP hD hS 1 0 rfl rfl h_5 dX12_statement_47 (fun H locs hP hD hS => ?_)
    obtain ⟨f_6, e_f_6⟩ : ∃ y : Nat → Int32, y = upd laf (nI kk : Int32).toNatClampNeg (nI aa) := ⟨_, rfl⟩
    have hpd9 : PDx (dC, dI) classes A H [cI aC m_letter 32 f_4, cI aC m_letterAt 32 f_6, cI aC m_told 96 tdf, oX12 g0 m_refused m_kind m_figure m_weight m_got m_setting men msy mdn m_tape m_letter m_letterAt m_told (nI lz) (nI aa) (nI kk) m_kept him ki crs m_price m_offer m_gets m_yes m_buys m_ends m_carried m_row rm m_keptRow m_likeGets m_likePrice m_ahead, cI aC m_tape 64 tpf] := by rw [e_f_6]; exact ⟨hP, hD⟩
    have hP := hpd9.1
    have hD := hpd9.2
    clear hpd9
    refine lv_aload_n hx hb dX12_statement_48 rfl (lv_at hl 1 rfl) ?_
    refine lv_dup hx hb dX12_statement_49 rfl ?_
    refine va_get (D := (dC, dI)) (ci := 12) (v := Value.int (nI aa)) (C := RX12) (T := TX12) (N := 33) hx hb hts inX12 hown hK hP 3 rfl rfl 14 (by decide) (hts _ (gw kw_731 rfl)) (fun _ h9 => h9) rfl dX12_statement_50 ?_
    refine lv_iconst (v := 1) hx hb dX12_statement_53 (by decide) ?_
    refine lv_iadd hx hb dX12_statement_54 ?_
    refine lv_topi (fun x_7 e_7 => ?_)
    refine va_put (D := (dC, dI)) (ci := 12) (v := Value.int x_7) (ty := .int) (C := RX12) (T := TX12) (N := 33) hx hb hts inX12 tyX12 tyX12_ok nmX12 hown hK hP hD hS 3 rfl rfl 14 (by decide) (hts _ (gw kw_731 rfl)) (fun _ h9 => h9) rfl (by decide +kernel) rfl rfl (Nat.le_of_ble_eq_true rfl) dX12_statement_55 (fun H locs hP hD hS => ?_)
    have hpd9 : PDx (dC, dI) classes A H [cI aC m_letter 32 f_4, cI aC m_letterAt 32 f_6, cI aC m_told 96 tdf, oX12 g0 m_refused m_kind m_figure m_weight m_got m_setting men msy mdn m_tape m_letter m_letterAt m_told (nI lz) x_7 (nI kk) m_kept him ki crs m_price m_offer m_gets m_yes m_buys m_ends m_carried m_row rm m_keptRow m_likeGets m_likePrice m_ahead, cI aC m_tape 64 tpf] := ⟨hP, hD⟩
    have hP := hpd9.1
    have hD := hpd9.2
    clear hpd9
    have h9 : x_7 = nI (aa + 1) := by rw [e_7, nI_1]
    subst h9
    refine lv_iconst (v := 3) hx hb dX12_statement_58 (by decide) ?_
    refine lv_aload_n hx hb dX12_statement_59 rfl (lv_at hl 1 rfl) ?_
    refine va_get (D := (dC, dI)) (ci := 12) (v := Value.int (nI kk)) (C := RX12) (T := TX12) (N := 33) hx hb hts inX12 hown hK hP 3 rfl rfl 15 (by decide) (hts _ (gw kw_732 rfl)) (fun _ h9 => h9) rfl dX12_statement_60 ?_
    refine lv_imul hx hb dX12_statement_63 ?_
    refine lv_topi (fun x_8 e_8 => ?_)
    have h9 : x_8 = nI (3 * kk) := by rw [e_8]; exact pk_mul 3 kk
    subst h9
    refine lv_istore_n (lv' := [(2, Value.int (nI (3 * kk))), (1, Value.int (nI (Lt aa))), (0, Value.ref g0)]) hx hb dX12_statement_64 rfl hl (by decide) rfl (fun ls hl => ?_)
    refine lv_iload_n hx hb dX12_statement_65 rfl (lv_at hl 1 rfl) ?_
    refine lv_bipush (v := 99) hx hb dX12_statement_66 (by decide) ?_
    refine lv_icmp_ne (tgt := 82) hx hb dX12_statement_68 (by decide) (fun c_9 => ?_) (fun c_9 => ?_)
    · refine lv_iconst (v := 0) hx hb dX12_statement_82 (by decide) ?_
      refine lv_istore_n (lv' := [(3, Value.int 0), (2, Value.int (nI (3 * kk))), (1, Value.int (nI (Lt aa))), (0, Value.ref g0)]) hx hb dX12_statement_83 rfl hl (by decide) rfl (fun ls hl => ?_)
      have lp_84 : ∀ (fu : Nat) (k : Nat) (td9 : Nat → Int32) (hfu : 3 - k < fu) (hk : k ≤ 3 ∧ aa + 1 + k ≤ lz) (hrn : lrn Lt (aa + 1 + k) = 1 + k) (htl : ∀ i, i < k → dig (Lt (aa + 1 + i)) ∧ td9 (3 * kk + i) = nI (Lt (aa + 1 + i) - 48)) (hfr : ∀ j, j < 3 * kk → td9 j = tdf j) (H : Heap) (locs : List Loc) (ls : Array Slot), va_P (dC, dI) classes [cI aC m_letter 32 f_4, cI aC m_letterAt 32 f_6, cI aC m_told 96 td9, oX12 g0 m_refused m_kind m_figure m_weight m_got m_setting men msy mdn m_tape m_letter m_letterAt m_told (nI lz) (nI (aa + 1 + k)) (nI kk) m_kept him ki crs m_price m_offer m_gets m_yes m_buys m_ends m_carried m_row rm m_keptRow m_likeGets m_likePrice m_ahead, cI aC m_tape 64 tpf] H → va_D A [cI aC m_letter 32 f_4, cI aC m_letterAt 32 f_6, cI aC m_told 96 td9, oX12 g0 m_refused m_kind m_figure m_weight m_got m_setting men msy mdn m_tape m_letter m_letterAt m_told (nI lz) (nI (aa + 1 + k)) (nI kk) m_kept him ki crs m_price m_offer m_gets m_yes m_buys m_ends m_carried m_row rm m_keptRow m_likeGets m_likePrice m_ahead, cI aC m_tape 64 tpf] → va_S A s.heap H locs → lv_has ls 4 [(0, Value.ref g0), (1, Value.int (nI (Lt aa))), (2, Value.int (nI (3 * kk))), (3, Value.int (nI k))] → W p l e (headSpec (wW yX12_statement cX12_statement 4 (some .boolean)) ({ frames := 2, cells := 0, slots := 0, locals := 46 } : Room)).room s m ([Value.ref g0] : List Value).toArray below meth c H locs 0 0 (MQ below (va_Qi (fun (r : Int32) (u : Int32 × (Nat → Int32) × (Nat → Int32) × (Nat → Int32)) => match u with | (at2, lf2, laf2, td2) => (r = 0 → ∃ q, FLP Lt lz q ∧ at2 = nI q) ∧ (¬ r = 0 → ∃ q, STM Lt aa q ∧ q < lz ∧ Lt q = 59 ∧ at2 = nI (q + 1) ∧ lf2 = upd lf kk (nI (Lt aa)) ∧ laf2 = upd laf kk (nI aa) ∧ TLD Lt aa q kk td2 ∧ ∀ j, j < 3 * kk → td2 j = tdf j)) (fun (u : Int32 × (Nat → Int32) × (Nat → Int32) × (Nat → Int32)) (t : State) => match u with | (at2, lf2, laf2, td2) => va_P (dC, dI) classes [oX12 g0 m_refused m_kind m_figure m_weight m_got m_setting men msy mdn m_tape m_letter m_letterAt m_told (nI lz) at2 (nI kk) m_kept him ki crs m_price m_offer m_gets m_yes m_buys m_ends m_carried m_row rm m_keptRow m_likeGets m_likePrice m_ahead, cI aC m_tape 64 tpf, cI aC m_letter 32 lf2, cI aC m_letterAt 32 laf2, cI aC m_told 96 td2] t.heap ∧ va_K (dC, dI) classes (TY aC) t ∧ va_D A [oX12 g0 m_refused m_kind m_figure m_weight m_got m_setting men msy mdn m_tape m_letter m_letterAt m_told (nI lz) at2 (nI kk) m_kept him ki crs m_price m_offer m_gets m_yes m_buys m_ends m_carried m_row rm m_keptRow m_likeGets m_likePrice m_ahead, cI aC m_tape 64 tpf, cI aC m_letter 32 lf2, cI aC m_letterAt 32 laf2, cI aC m_told 96 td2]) A) ([Value.ref g0] : List Value).toArray s 0 0 A) (F0 m 84 ls []) := by
        intro fu
        induction fu with
        | zero => intro k td9 hfu; exact absurd hfu (Nat.not_lt_zero _)
        | succ fu ih_84 =>
          intro k td9 hfu hk hrn htl hfr H locs ls hP hD hS hl
          refine lv_iload_n hx hb dX12_statement_84 rfl (lv_at hl 3 rfl) ?_
          refine lv_iconst (v := 3) hx hb dX12_statement_85 (by decide) ?_
          refine lv_icmp_ge (tgt := 108) hx hb dX12_statement_86 (by decide) (fun c_10 => ?_) (fun c_10 => ?_)
          · have hk3 : k = 3 := by
              rcases Nat.lt_or_ge k 3 with q | q
              · exact absurd c_10 (nI_ge (b := 3) q (by omega))
              · omega
            refine lv_aload_n hx hb dX12_statement_108 rfl (lv_at hl 0 rfl) ?_
            have hpd9 := pdf_N (cx := [oX12 g0 m_refused m_kind m_figure m_weight m_got m_setting men msy mdn m_tape m_letter m_letterAt m_told (nI lz) (nI (aa + 1 + k)) (nI kk) m_kept him ki crs m_price m_offer m_gets m_yes m_buys m_ends m_carried m_row rm m_keptRow m_likeGets m_likePrice m_ahead, cI aC m_tape 64 tpf]) hP hD hS hA [3, 4] (by decide) rfl
            have hPc := hpd9.1
            have hDc := hpd9.2.1
            have hFc := hpd9.2.2
            clear hpd9
            refine va_calli (va_runV (As := []) (rest := []) ⟨hx, hb, hml, hown, hts⟩ (c_X12_next l dC dI aC H.size g0 m_refused m_kind m_figure m_weight m_got m_setting m_tape m_letter m_letterAt m_told m_kept m_price m_offer m_gets m_yes m_buys m_ends m_carried m_row m_keptRow m_likeGets m_likePrice m_ahead men msy mdn (nI kk) him ki crs rm lz (aa + 1 + k) Lt tpf (hlt0) (by omega)) ⟨(callB_of 0 hts (gG kw_839) rfl rfl rfl (hts _ (gw kw_13 rfl)) (hts _ (gw kw_836 rfl)) hd_X12_next ⟨Nat.le_of_ble_eq_true rfl, Nat.le_of_ble_eq_true rfl⟩), (hts _ (gw kw_838 rfl)), (hts _ (gw ks_37 rfl))⟩ ⟨fb_std, va_recv (q := (RX12, TX12, 33)) hK hPc (ci := 12) (q0 := 0) rfl rfl, pre_std hPc hK hDc hN⟩ rfl rfl hl.1 rfl (lv_room (Nat.le_of_ble_eq_true rfl)) dX12_statement_109 ⟨Nat.le_of_ble_eq_true rfl, Nat.le_of_ble_eq_true rfl⟩) hS (fun q _ h => hFc q h) hFc (fun x_11 u9 t9 H1 locs ht hvm hw_11 hB hz1 hk1 hS => ?_)
            obtain ⟨hP1, hK1, hD1⟩ := hB
            rw [ht] at hP1
            clear hK1
            try dsimp only at hw_11
            have hpd9 : PDx (dC, dI) classes A H1 [cI aC m_letter 32 f_4, cI aC m_letterAt 32 f_6, cI aC m_told 96 td9, oX12 g0 m_refused m_kind m_figure m_weight m_got m_setting men msy mdn m_tape m_letter m_letterAt m_told (nI lz) (nI (aa + 1 + k)) (nI kk) m_kept him ki crs m_price m_offer m_gets m_yes m_buys m_ends m_carried m_row rm m_keptRow m_likeGets m_likePrice m_ahead, cI aC m_tape 64 tpf] := jn_N (wr := [cI aC m_letter 32 f_4, cI aC m_letterAt 32 f_6, cI aC m_told 96 td9]) hFc hk1 hP1 hD1 hP hD [3, 4] [0, 1, 2] rfl rfl (by decide) (by decide)
            have hP := hpd9.1
            have hD := hpd9.2
            clear hpd9
            generalize H1 = H at hP hS ⊢
            clear hPc hDc hFc hz1 hk1 hP1 hD1 ht hvm
            have hz_109 := hw_11
            refine lv_bipush (v := 59) hx hb dX12_statement_112 (by decide) ?_
            refine lv_icmp_eq (tgt := 119) hx hb dX12_statement_114 (by decide) (fun c_12 => ?_) (fun c_12 => ?_)
            · refine lv_aload_n hx hb dX12_statement_119 rfl (lv_at hl 0 rfl) ?_
              refine lv_dup hx hb dX12_statement_120 rfl ?_
              refine va_get (D := (dC, dI)) (ci := 12) (v := Value.int (nI (aa + 1 + k))) (C := RX12) (T := TX12) (N := 33) hx hb hts inX12 hown hK hP 3 rfl rfl 14 (by decide) (hts _ (gw kw_731 rfl)) (fun _ h9 => h9) rfl dX12_statement_121 ?_
              refine lv_iconst (v := 1) hx hb dX12_statement_124 (by decide) ?_
              refine lv_iadd hx hb dX12_statement_125 ?_
              refine lv_topi (fun x_13 e_13 => ?_)
              refine va_put (D := (dC, dI)) (ci := 12) (v := Value.int x_13) (ty := .int) (C := RX12) (T := TX12) (N := 33) hx hb hts inX12 tyX12 tyX12_ok nmX12 hown hK hP hD hS 3 rfl rfl 14 (by decide) (hts _ (gw kw_731 rfl)) (fun _ h9 => h9) rfl (by decide +kernel) rfl rfl (Nat.le_of_ble_eq_true rfl) dX12_statement_126 (fun H locs hP hD hS => ?_)
              have hpd9 : PDx (dC, dI) classes A H [cI aC m_letter 32 f_4, cI aC m_letterAt 32 f_6, cI aC m_told 96 td9, oX12 g0 m_refused m_kind m_figure m_weight m_got m_setting men msy mdn m_tape m_letter m_letterAt m_told (nI lz) x_13 (nI kk) m_kept him ki crs m_price m_offer m_gets m_yes m_buys m_ends m_carried m_row rm m_keptRow m_likeGets m_likePrice m_ahead, cI aC m_tape 64 tpf] := ⟨hP, hD⟩
              have hP := hpd9.1
              have hD := hpd9.2
              clear hpd9
              have h9 : x_13 = nI (aa + 1 + k + 1) := by rw [e_13, nI_1]
              subst h9
              refine lv_iconst (v := 1) hx hb dX12_statement_129 (by decide) ?_
              have hpd9 := pd_N (cx := [oX12 g0 m_refused m_kind m_figure m_weight m_got m_setting men msy mdn m_tape m_letter m_letterAt m_told (nI lz) (nI (aa + 1 + k + 1)) (nI kk) m_kept him ki crs m_price m_offer m_gets m_yes m_buys m_ends m_carried m_row rm m_keptRow m_likeGets m_likePrice m_ahead, cI aC m_tape 64 tpf, cI aC m_letter 32 f_4, cI aC m_letterAt 32 f_6, cI aC m_told 96 td9]) hP hD [3, 4, 0, 1, 2] (by decide) rfl
              have hP9 := hpd9.1
              have hD9 := hpd9.2
              refine W.widen (k := 0) (n := 0) (by omega) (by omega) ?_
              exact W.zret (v := 1) hx hb hr rfl (fun t ht hW => ⟨⟨1, ((nI (aa + 1 + k + 1)), f_4, f_6, td9), rfl, ⟨fun q => absurd q (by decide), fun _ => ⟨aa + 1 + k, by subst hk3; exact (tl_m (e := aa + 4) (k := kk) (Or.inl hb2) htl).1, ((nx_k (k := 59) hL2 (by omega) hz_109).mp c_12).1, ((nx_k (k := 59) hL2 (by omega) hz_109).mp c_12).2, rfl, by rw [e_f_4, nI_clamp (by omega)], by rw [e_f_6, nI_clamp (by omega)], by subst hk3; exact ⟨(tl_m (Or.inl hb2) htl).2, hfr⟩⟩⟩, by rw [ht]; exact hP9, va_K.moved hW.alike hK, hD9⟩, hS.F ht⟩) hS.2.2 dX12_statement_130
            · refine lv_iconst (v := 0) hx hb dX12_statement_117 (by decide) ?_
              have hpd9 := pd_N (cx := [oX12 g0 m_refused m_kind m_figure m_weight m_got m_setting men msy mdn m_tape m_letter m_letterAt m_told (nI lz) (nI (aa + 1 + k)) (nI kk) m_kept him ki crs m_price m_offer m_gets m_yes m_buys m_ends m_carried m_row rm m_keptRow m_likeGets m_likePrice m_ahead, cI aC m_tape 64 tpf, cI aC m_letter 32 f_4, cI aC m_letterAt 32 f_6, cI aC m_told 96 td9]) hP hD [3, 4, 0, 1, 2] (by decide) rfl
              have hP9 := hpd9.1
              have hD9 := hpd9.2
              refine W.widen (k := 0) (n := 0) (by omega) (by omega) ?_
              exact W.zret (v := 0) hx hb hr rfl (fun t ht hW => ⟨⟨0, ((nI (aa + 1 + k)), f_4, f_6, td9), rfl, ⟨fun _ => ⟨aa + 1 + k, fl_m2 (by rw [hrn, hk3]) (by omega) (fun z => c_12 ((nx_k (k := 59) hL2 (by omega) hz_109).mpr z)), rfl⟩, fun q => absurd rfl q⟩, by rw [ht]; exact hP9, va_K.moved hW.alike hK, hD9⟩, hS.F ht⟩) hS.2.2 dX12_statement_118
          · have hlt : k < 3 := by
              rcases Nat.lt_or_ge k 3 with q | q
              · exact q
              · exact absurd (nI_le (a := 3) q (by omega)) c_10
            refine lv_aload_n hx hb dX12_statement_89 rfl (lv_at hl 0 rfl) ?_
            refine lv_iload_n hx hb dX12_statement_90 rfl (lv_at hl 2 rfl) ?_
            refine lv_iload_n hx hb dX12_statement_91 rfl (lv_at hl 3 rfl) ?_
            refine lv_iadd hx hb dX12_statement_92 ?_
            refine lv_topi (fun x_14 e_14 => ?_)
            have h9 : x_14 = nI (3 * kk + k) := by rw [e_14, nI_add]
            subst h9
            refine lv_iconst (v := 1) hx hb dX12_statement_93 (by decide) ?_
            refine lv_topi (fun x_15 e_15 => ?_)
            have h9 : x_15 = nI 1 := by rw [e_15]; rfl
            subst h9
            have hpd9 := pdf_N (cx := [oX12 g0 m_refused m_kind m_figure m_weight m_got m_setting men msy mdn m_tape m_letter m_letterAt m_told (nI lz) (nI (aa + 1 + k)) (nI kk) m_kept him ki crs m_price m_offer m_gets m_yes m_buys m_ends m_carried m_row rm m_keptRow m_likeGets m_likePrice m_ahead, cI aC m_tape 64 tpf, cI aC m_told 96 td9]) hP hD hS hA [3, 4, 2] (by decide) rfl
            have hPc := hpd9.1
            have hDc := hpd9.2.1
            have hFc := hpd9.2.2
            clear hpd9
            refine va_calli (va_runV (As := [Value.int (nI (3 * kk + k)), Value.int (nI 1)]) (rest := []) ⟨hx, hb, hml, hown, hts⟩ (c_X12_reads l dC dI aC H.size g0 m_refused m_kind m_figure m_weight m_got m_setting m_tape m_letter m_letterAt m_told m_kept m_price m_offer m_gets m_yes m_buys m_ends m_carried m_row m_keptRow m_likeGets m_likePrice m_ahead men msy mdn (nI kk) him ki crs rm lz (aa + 1 + k) Lt tpf (3 * kk + k) 1 td9 (hlt0) (by omega) (by omega) (by omega)) ⟨(callB_of 2 hts (gG kw_843) rfl rfl rfl (hts _ (gw kw_13 rfl)) (hts _ (gw kw_840 rfl)) hd_X12_reads ⟨Nat.le_of_ble_eq_true rfl, Nat.le_of_ble_eq_true rfl⟩), (hts _ (gw kw_842 rfl)), (hts _ (gw ks_38 rfl))⟩ ⟨fb_std, va_recv (q := (RX12, TX12, 33)) hK hPc (ci := 12) (q0 := 0) rfl rfl, pre_std hPc hK hDc hN⟩ rfl rfl hl.1 rfl (lv_room (Nat.le_of_ble_eq_true rfl)) dX12_statement_94 ⟨Nat.le_of_ble_eq_true rfl, Nat.le_of_ble_eq_true rfl⟩) hS (fun q _ h => hFc q h) hFc (fun x_16 u9 t9 H1 locs ht hvm hw_16 hB hz1 hk1 hS => ?_)
            obtain ⟨u_17, u_18⟩ := u9
            obtain ⟨hP1, hK1, hD1⟩ := hB
            rw [ht] at hP1
            clear hK1
            try dsimp only at hw_16
            have hpd9 : PDx (dC, dI) classes A H1 [cI aC m_letter 32 f_4, cI aC m_letterAt 32 f_6, oX12 g0 m_refused m_kind m_figure m_weight m_got m_setting men msy mdn m_tape m_letter m_letterAt m_told (nI lz) u_17 (nI kk) m_kept him ki crs m_price m_offer m_gets m_yes m_buys m_ends m_carried m_row rm m_keptRow m_likeGets m_likePrice m_ahead, cI aC m_tape 64 tpf, cI aC m_told 96 u_18] := jn_N (wr := [cI aC m_letter 32 f_4, cI aC m_letterAt 32 f_6]) hFc hk1 hP1 hD1 hP hD [3, 4, 2] [0, 1] rfl rfl (by decide) (by decide)
            have hP := hpd9.1
            have hD := hpd9.2
            clear hpd9
            generalize H1 = H at hP hS ⊢
            clear hPc hDc hFc hz1 hk1 hP1 hD1 ht hvm
            have hz_94 := hw_16
            refine lv_if_ne (tgt := 102) hx hb dX12_statement_97 (by decide) (fun c_19 => ?_) (fun c_19 => ?_)
            · obtain ⟨x, x1, x2, x3, x4, hat, htd⟩ := hz_94.2 c_19
              have hx : x = 1 := by omega
              have hts9 := td_s htl hfr hx x3 htd
              subst hx
              have hr9 := r_m hrn (by omega) (x3 0 (by omega)).2
              have hq9 := (x3 0 (by omega)).1
              have h9 : u_17 = nI (aa + 1 + (k + 1)) := hat
              subst h9
              obtain ⟨x_20, e_20⟩ : ∃ y : Int32, y = (nI k) + 1 := ⟨_, rfl⟩
              refine lv_iinc (v := x_20) (lv' := [(3, Value.int x_20), (0, Value.ref g0), (1, Value.int (nI (Lt aa))), (2, Value.int (nI (3 * kk)))]) hx hb dX12_statement_102 hl (k := 3) rfl (by rw [e_20]; rfl) (by decide) rfl (fun ls hl => ?_)
              have h9 : x_20 = nI (k + 1) := by rw [e_20, nI_1]
              subst h9
              refine lv_goto (tgt := 84) hx hb dX12_statement_105 (by decide) ?_
              exact ih_84 (k + 1) u_18 (by omega) (by omega) (hr9) (hts9.1) (hts9.2) _ _ _ (hP.sub [0, 1, 4, 2, 3] rfl) (hD.sub [0, 1, 4, 2, 3] (by decide) rfl) hS (lv_sub hl [1, 2, 3, 0] rfl)
            · obtain ⟨hnd, hat, htd⟩ := hz_94.1 c_19
              have h9 : u_17 = nI (aa + 1 + k) := hat
              subst h9
              refine lv_iconst (v := 0) hx hb dX12_statement_100 (by decide) ?_
              have hpd9 := pd_N (cx := [oX12 g0 m_refused m_kind m_figure m_weight m_got m_setting men msy mdn m_tape m_letter m_letterAt m_told (nI lz) (nI (aa + 1 + k)) (nI kk) m_kept him ki crs m_price m_offer m_gets m_yes m_buys m_ends m_carried m_row rm m_keptRow m_likeGets m_likePrice m_ahead, cI aC m_tape 64 tpf, cI aC m_letter 32 f_4, cI aC m_letterAt 32 f_6, cI aC m_told 96 u_18]) hP hD [2, 3, 0, 1, 4] (by decide) rfl
              have hP9 := hpd9.1
              have hD9 := hpd9.2
              refine W.widen (k := 0) (n := 0) (by omega) (by omega) ?_
              exact W.zret (v := 0) hx hb hr rfl (fun t ht hW => ⟨⟨0, ((nI (aa + 1 + k)), f_4, f_6, u_18), rfl, ⟨fun _ => ⟨aa + 1 + k, fl_m hrn (by omega) (by omega) hnd, rfl⟩, fun q => absurd rfl q⟩, by rw [ht]; exact hP9, va_K.moved hW.alike hK, hD9⟩, hS.F ht⟩) hS.2.2 dX12_statement_101
      exact lp_84 ((3 - 0) + 1) 0 tdf (Nat.lt_succ_self _) (by omega) (r_m1 h0 (by omega)) (fun i hi => by omega) (fun j hj => rfl) _ _ _ (hP.sub [0, 1, 2, 3, 4] rfl) (hD.sub [0, 1, 2, 3, 4] (by decide) rfl) hS (lv_sub hl [3, 2, 1, 0] rfl)
    · exact absurd ((nI_b0 (k := 99) (hL2 aa hb1) (by omega)).mp c_9) (by omega)
  · refine lv_iload_n hx hb dX12_statement_11 rfl (lv_at hl 0 rfl) ?_
    refine lv_bipush (v := 99) hx hb dX12_statement_12 (by decide) ?_
    refine lv_icmp_eq (tgt := 25) hx hb dX12_statement_14 (by decide) (fun c_21 => ?_) (fun c_21 => ?_)
    · have hb : aa < lz ∧ Lt aa = 99 := (nx_k (k := 99) hL2 (by omega) hz_1).mp c_21
      obtain ⟨hb1, hb2⟩ := hb
      have h9 : x_1 = nI (Lt aa) := by rw [hz_1]; unfold nxt; rw [if_pos hb1]
      subst h9
      refine lv_aload_n hx hb dX12_statement_25 rfl (lv_at hl 1 rfl) ?_
      refine va_get (D := (dC, dI)) (ci := 12) (v := Value.ref m_letter) (C := RX12) (T := TX12) (N := 33) hx hb hts inX12 hown hK hP 3 rfl rfl 10 (by decide) (hts _ (gw kw_727 rfl)) (fun _ h9 => h9) rfl dX12_statement_26 ?_
      refine lv_aload_n hx hb dX12_statement_29 rfl (lv_at hl 1 rfl) ?_
      refine va_get (D := (dC, dI)) (ci := 12) (v := Value.int (nI kk)) (C := RX12) (T := TX12) (N := 33) hx hb hts inX12 hown hK hP 3 rfl rfl 15 (by decide) (hts _ (gw kw_732 rfl)) (fun _ h9 => h9) rfl dX12_statement_30 ?_
      refine lv_iload_n hx hb dX12_statement_33 rfl (lv_at hl 0 rfl) ?_
      have h_22 : vp_in (nI kk) 32 := vp_in_nI (by omega) (by omega)
      refine va_iast hx hb hK hP hD hS 0 0 rfl rfl h_22 dX12_statement_34 (fun H locs hP hD hS => ?_)
      obtain ⟨f_23, e_f_23⟩ : ∃ y : Nat → Int32, y = upd lf (nI kk : Int32).toNatClampNeg (nI (Lt aa)) := ⟨_, rfl⟩
      have hpd9 : PDx (dC, dI) classes A H [cI aC m_letter 32 f_23, cI aC m_letterAt 32 laf, cI aC m_told 96 tdf, oX12 g0 m_refused m_kind m_figure m_weight m_got m_setting men msy mdn m_tape m_letter m_letterAt m_told (nI lz) (nI aa) (nI kk) m_kept him ki crs m_price m_offer m_gets m_yes m_buys m_ends m_carried m_row rm m_keptRow m_likeGets m_likePrice m_ahead, cI aC m_tape 64 tpf] := by rw [e_f_23]; exact ⟨hP, hD⟩
      have hP := hpd9.1
      have hD := hpd9.2
      clear hpd9
      refine lv_aload_n hx hb dX12_statement_35 rfl (lv_at hl 1 rfl) ?_
      refine va_get (D := (dC, dI)) (ci := 12) (v := Value.ref m_letterAt) (C := RX12) (T := TX12) (N := 33) hx hb hts inX12 hown hK hP 3 rfl rfl 11 (by decide) (hts _ (gw kw_728 rfl)) (fun _ h9 => h9) rfl dX12_statement_36 ?_
      refine lv_aload_n hx hb dX12_statement_39 rfl (lv_at hl 1 rfl) ?_
      refine va_get (D := (dC, dI)) (ci := 12) (v := Value.int (nI kk)) (C := RX12) (T := TX12) (N := 33) hx hb hts inX12 hown hK hP 3 rfl rfl 15 (by decide) (hts _ (gw kw_732 rfl)) (fun _ h9 => h9) rfl dX12_statement_40 ?_
      refine lv_aload_n hx hb dX12_statement_43 rfl (lv_at hl 1 rfl) ?_
      refine va_get (D := (dC, dI)) (ci := 12) (v := Value.int (nI aa)) (C := RX12) (T := TX12) (N := 33) hx hb hts inX12 hown hK hP 3 rfl rfl 14 (by decide) (hts _ (gw kw_731 rfl)) (fun _ h9 => h9) rfl dX12_statement_44 ?_
      have h_24 : vp_in (nI kk) 32 := vp_in_nI (by omega) (by omega)
      refine va_iast hx hb hK hP hD hS 1 0 rfl rfl h_24 dX12_statement_47 (fun H locs hP hD hS => ?_)
      obtain ⟨f_25, e_f_25⟩ : ∃ y : Nat → Int32, y = upd laf (nI kk : Int32).toNatClampNeg (nI aa) := ⟨_, rfl⟩
      have hpd9 : PDx (dC, dI) classes A H [cI aC m_letter 32 f_23, cI aC m_letterAt 32 f_25, cI aC m_told 96 tdf, oX12 g0 m_refused m_kind m_figure m_weight m_got m_setting men msy mdn m_tape m_letter m_letterAt m_told (nI lz) (nI aa) (nI kk) m_kept him ki crs m_price m_offer m_gets m_yes m_buys m_ends m_carried m_row rm m_keptRow m_likeGets m_likePrice m_ahead, cI aC m_tape 64 tpf] := by rw [e_f_25]; exact ⟨hP, hD⟩
      have hP := hpd9.1
      have hD := hpd9.2
      clear hpd9
      refine lv_aload_n hx hb dX12_statement_48 rfl (lv_at hl 1 rfl) ?_
      refine lv_dup hx hb dX12_statement_49 rfl ?_
      refine va_get (D := (dC, dI)) (ci := 12) (v := Value.int (nI aa)) (C := RX12) (T := TX12) (N := 33) hx hb hts inX12 hown hK hP 3 rfl rfl 14 (by decide) (hts _ (gw kw_731 rfl)) (fun _ h9 => h9) rfl dX12_statement_50 ?_
      refine lv_iconst (v := 1) hx hb dX12_statement_53 (by decide) ?_
      refine lv_iadd hx hb dX12_statement_54 ?_
      refine lv_topi (fun x_26 e_26 => ?_)
      refine va_put (D := (dC, dI)) (ci := 12) (v := Value.int x_26) (ty := .int) (C := RX12) (T := TX12) (N := 33) hx hb hts inX12 tyX12 tyX12_ok nmX12 hown hK hP hD hS 3 rfl rfl 14 (by decide) (hts _ (gw kw_731 rfl)) (fun _ h9 => h9) rfl (by decide +kernel) rfl rfl (Nat.le_of_ble_eq_true rfl) dX12_statement_55 (fun H locs hP hD hS => ?_)
      have hpd9 : PDx (dC, dI) classes A H [cI aC m_letter 32 f_23, cI aC m_letterAt 32 f_25, cI aC m_told 96 tdf, oX12 g0 m_refused m_kind m_figure m_weight m_got m_setting men msy mdn m_tape m_letter m_letterAt m_told (nI lz) x_26 (nI kk) m_kept him ki crs m_price m_offer m_gets m_yes m_buys m_ends m_carried m_row rm m_keptRow m_likeGets m_likePrice m_ahead, cI aC m_tape 64 tpf] := ⟨hP, hD⟩
      have hP := hpd9.1
      have hD := hpd9.2
      clear hpd9
      have h9 : x_26 = nI (aa + 1) := by rw [e_26, nI_1]
      subst h9
      refine lv_iconst (v := 3) hx hb dX12_statement_58 (by decide) ?_
      refine lv_aload_n hx hb dX12_statement_59 rfl (lv_at hl 1 rfl) ?_
      refine va_get (D := (dC, dI)) (ci := 12) (v := Value.int (nI kk)) (C := RX12) (T := TX12) (N := 33) hx hb hts inX12 hown hK hP 3 rfl rfl 15 (by decide) (hts _ (gw kw_732 rfl)) (fun _ h9 => h9) rfl dX12_statement_60 ?_
      refine lv_imul hx hb dX12_statement_63 ?_
      refine lv_topi (fun x_27 e_27 => ?_)
      have h9 : x_27 = nI (3 * kk) := by rw [e_27]; exact pk_mul 3 kk
      subst h9
      refine lv_istore_n (lv' := [(2, Value.int (nI (3 * kk))), (1, Value.int (nI (Lt aa))), (0, Value.ref g0)]) hx hb dX12_statement_64 rfl hl (by decide) rfl (fun ls hl => ?_)
      refine lv_iload_n hx hb dX12_statement_65 rfl (lv_at hl 1 rfl) ?_
      refine lv_bipush (v := 99) hx hb dX12_statement_66 (by decide) ?_
      refine lv_icmp_ne (tgt := 82) hx hb dX12_statement_68 (by decide) (fun c_28 => ?_) (fun c_28 => ?_)
      · exact absurd (by rw [hb2]; rfl) c_28
      · refine lv_aload_n hx hb dX12_statement_71 rfl (lv_at hl 2 rfl) ?_
        refine lv_iload_n hx hb dX12_statement_72 rfl (lv_at hl 0 rfl) ?_
        refine lv_iconst (v := 2) hx hb dX12_statement_73 (by decide) ?_
        refine lv_topi (fun x_29 e_29 => ?_)
        have h9 : x_29 = nI 2 := by rw [e_29]; rfl
        subst h9
        have hpd9 := pdf_N (cx := [oX12 g0 m_refused m_kind m_figure m_weight m_got m_setting men msy mdn m_tape m_letter m_letterAt m_told (nI lz) (nI (aa + 1)) (nI kk) m_kept him ki crs m_price m_offer m_gets m_yes m_buys m_ends m_carried m_row rm m_keptRow m_likeGets m_likePrice m_ahead, cI aC m_tape 64 tpf, cI aC m_told 96 tdf]) hP hD hS hA [3, 4, 2] (by decide) rfl
        have hPc := hpd9.1
        have hDc := hpd9.2.1
        have hFc := hpd9.2.2
        clear hpd9
        refine va_calli (va_runV (As := [Value.int (nI (3 * kk)), Value.int (nI 2)]) (rest := []) ⟨hx, hb, hml, hown, hts⟩ (c_X12_reads l dC dI aC H.size g0 m_refused m_kind m_figure m_weight m_got m_setting m_tape m_letter m_letterAt m_told m_kept m_price m_offer m_gets m_yes m_buys m_ends m_carried m_row m_keptRow m_likeGets m_likePrice m_ahead men msy mdn (nI kk) him ki crs rm lz (aa + 1) Lt tpf (3 * kk) 2 tdf (hlt0) (by omega) (by omega) (by omega)) ⟨(callB_of 2 hts (gG kw_843) rfl rfl rfl (hts _ (gw kw_13 rfl)) (hts _ (gw kw_840 rfl)) hd_X12_reads ⟨Nat.le_of_ble_eq_true rfl, Nat.le_of_ble_eq_true rfl⟩), (hts _ (gw kw_842 rfl)), (hts _ (gw ks_38 rfl))⟩ ⟨fb_std, va_recv (q := (RX12, TX12, 33)) hK hPc (ci := 12) (q0 := 0) rfl rfl, pre_std hPc hK hDc hN⟩ rfl rfl hl.1 rfl (lv_room (Nat.le_of_ble_eq_true rfl)) dX12_statement_74 ⟨Nat.le_of_ble_eq_true rfl, Nat.le_of_ble_eq_true rfl⟩) hS (fun q _ h => hFc q h) hFc (fun x_30 u9 t9 H1 locs ht hvm hw_30 hB hz1 hk1 hS => ?_)
        obtain ⟨u_31, u_32⟩ := u9
        obtain ⟨hP1, hK1, hD1⟩ := hB
        rw [ht] at hP1
        clear hK1
        try dsimp only at hw_30
        have hpd9 : PDx (dC, dI) classes A H1 [cI aC m_letter 32 f_23, cI aC m_letterAt 32 f_25, oX12 g0 m_refused m_kind m_figure m_weight m_got m_setting men msy mdn m_tape m_letter m_letterAt m_told (nI lz) u_31 (nI kk) m_kept him ki crs m_price m_offer m_gets m_yes m_buys m_ends m_carried m_row rm m_keptRow m_likeGets m_likePrice m_ahead, cI aC m_tape 64 tpf, cI aC m_told 96 u_32] := jn_N (wr := [cI aC m_letter 32 f_23, cI aC m_letterAt 32 f_25]) hFc hk1 hP1 hD1 hP hD [3, 4, 2] [0, 1] rfl rfl (by decide) (by decide)
        have hP := hpd9.1
        have hD := hpd9.2
        clear hpd9
        generalize H1 = H at hP hS ⊢
        clear hPc hDc hFc hz1 hk1 hP1 hD1 ht hvm
        have hz_74 := hw_30
        refine lv_if_ne (tgt := 108) hx hb dX12_statement_77 (by decide) (fun c_33 => ?_) (fun c_33 => ?_)
        · obtain ⟨k, k1, k2, k3, k4, hat, htd⟩ := hz_74.2 c_33
          have h9 : u_31 = nI (aa + 1 + k) := hat
          subst h9
          have hq9 := (k3 (k - 1) (by omega)).1
          refine lv_aload_n hx hb dX12_statement_108 rfl (lv_at hl 2 rfl) ?_
          have hpd9 := pdf_N (cx := [oX12 g0 m_refused m_kind m_figure m_weight m_got m_setting men msy mdn m_tape m_letter m_letterAt m_told (nI lz) (nI (aa + 1 + k)) (nI kk) m_kept him ki crs m_price m_offer m_gets m_yes m_buys m_ends m_carried m_row rm m_keptRow m_likeGets m_likePrice m_ahead, cI aC m_tape 64 tpf]) hP hD hS hA [2, 3] (by decide) rfl
          have hPc := hpd9.1
          have hDc := hpd9.2.1
          have hFc := hpd9.2.2
          clear hpd9
          refine va_calli (va_runV (As := []) (rest := []) ⟨hx, hb, hml, hown, hts⟩ (c_X12_next l dC dI aC H.size g0 m_refused m_kind m_figure m_weight m_got m_setting m_tape m_letter m_letterAt m_told m_kept m_price m_offer m_gets m_yes m_buys m_ends m_carried m_row m_keptRow m_likeGets m_likePrice m_ahead men msy mdn (nI kk) him ki crs rm lz (aa + 1 + k) Lt tpf (hlt0) (by omega)) ⟨(callB_of 0 hts (gG kw_839) rfl rfl rfl (hts _ (gw kw_13 rfl)) (hts _ (gw kw_836 rfl)) hd_X12_next ⟨Nat.le_of_ble_eq_true rfl, Nat.le_of_ble_eq_true rfl⟩), (hts _ (gw kw_838 rfl)), (hts _ (gw ks_37 rfl))⟩ ⟨fb_std, va_recv (q := (RX12, TX12, 33)) hK hPc (ci := 12) (q0 := 0) rfl rfl, pre_std hPc hK hDc hN⟩ rfl rfl hl.1 rfl (lv_room (Nat.le_of_ble_eq_true rfl)) dX12_statement_109 ⟨Nat.le_of_ble_eq_true rfl, Nat.le_of_ble_eq_true rfl⟩) hS (fun q _ h => hFc q h) hFc (fun x_34 u9 t9 H1 locs ht hvm hw_34 hB hz1 hk1 hS => ?_)
          obtain ⟨hP1, hK1, hD1⟩ := hB
          rw [ht] at hP1
          clear hK1
          try dsimp only at hw_34
          have hpd9 : PDx (dC, dI) classes A H1 [cI aC m_letter 32 f_23, cI aC m_letterAt 32 f_25, cI aC m_told 96 u_32, oX12 g0 m_refused m_kind m_figure m_weight m_got m_setting men msy mdn m_tape m_letter m_letterAt m_told (nI lz) (nI (aa + 1 + k)) (nI kk) m_kept him ki crs m_price m_offer m_gets m_yes m_buys m_ends m_carried m_row rm m_keptRow m_likeGets m_likePrice m_ahead, cI aC m_tape 64 tpf] := jn_N (wr := [cI aC m_letter 32 f_23, cI aC m_letterAt 32 f_25, cI aC m_told 96 u_32]) hFc hk1 hP1 hD1 hP hD [2, 3] [0, 1, 4] rfl rfl (by decide) (by decide)
          have hP := hpd9.1
          have hD := hpd9.2
          clear hpd9
          generalize H1 = H at hP hS ⊢
          clear hPc hDc hFc hz1 hk1 hP1 hD1 ht hvm
          have hz_109 := hw_34
          refine lv_bipush (v := 59) hx hb dX12_statement_112 (by decide) ?_
          refine lv_icmp_eq (tgt := 119) hx hb dX12_statement_114 (by decide) (fun c_35 => ?_) (fun c_35 => ?_)
          · refine lv_aload_n hx hb dX12_statement_119 rfl (lv_at hl 2 rfl) ?_
            refine lv_dup hx hb dX12_statement_120 rfl ?_
            refine va_get (D := (dC, dI)) (ci := 12) (v := Value.int (nI (aa + 1 + k))) (C := RX12) (T := TX12) (N := 33) hx hb hts inX12 hown hK hP 3 rfl rfl 14 (by decide) (hts _ (gw kw_731 rfl)) (fun _ h9 => h9) rfl dX12_statement_121 ?_
            refine lv_iconst (v := 1) hx hb dX12_statement_124 (by decide) ?_
            refine lv_iadd hx hb dX12_statement_125 ?_
            refine lv_topi (fun x_36 e_36 => ?_)
            refine va_put (D := (dC, dI)) (ci := 12) (v := Value.int x_36) (ty := .int) (C := RX12) (T := TX12) (N := 33) hx hb hts inX12 tyX12 tyX12_ok nmX12 hown hK hP hD hS 3 rfl rfl 14 (by decide) (hts _ (gw kw_731 rfl)) (fun _ h9 => h9) rfl (by decide +kernel) rfl rfl (Nat.le_of_ble_eq_true rfl) dX12_statement_126 (fun H locs hP hD hS => ?_)
            have hpd9 : PDx (dC, dI) classes A H [cI aC m_letter 32 f_23, cI aC m_letterAt 32 f_25, cI aC m_told 96 u_32, oX12 g0 m_refused m_kind m_figure m_weight m_got m_setting men msy mdn m_tape m_letter m_letterAt m_told (nI lz) x_36 (nI kk) m_kept him ki crs m_price m_offer m_gets m_yes m_buys m_ends m_carried m_row rm m_keptRow m_likeGets m_likePrice m_ahead, cI aC m_tape 64 tpf] := ⟨hP, hD⟩
            have hP := hpd9.1
            have hD := hpd9.2
            clear hpd9
            have h9 : x_36 = nI (aa + 1 + k + 1) := by rw [e_36, nI_1]
            subst h9
            refine lv_iconst (v := 1) hx hb dX12_statement_129 (by decide) ?_
            have hpd9 := pd_N (cx := [oX12 g0 m_refused m_kind m_figure m_weight m_got m_setting men msy mdn m_tape m_letter m_letterAt m_told (nI lz) (nI (aa + 1 + k + 1)) (nI kk) m_kept him ki crs m_price m_offer m_gets m_yes m_buys m_ends m_carried m_row rm m_keptRow m_likeGets m_likePrice m_ahead, cI aC m_tape 64 tpf, cI aC m_letter 32 f_23, cI aC m_letterAt 32 f_25, cI aC m_told 96 u_32]) hP hD [3, 4, 0, 1, 2] (by decide) rfl
            have hP9 := hpd9.1
            have hD9 := hpd9.2
            refine W.widen (k := 0) (n := 0) (by omega) (by omega) ?_
            exact W.zret (v := 1) hx hb hr rfl (fun t ht hW => ⟨⟨1, ((nI (aa + 1 + k + 1)), f_23, f_25, u_32), rfl, ⟨fun q => absurd q (by decide), fun _ => ⟨aa + 1 + k, (ok_c hb2 k1 k2 k3).1, ((nx_k (k := 59) hL2 (by omega) hz_109).mp c_35).1, ((nx_k (k := 59) hL2 (by omega) hz_109).mp c_35).2, rfl, by rw [e_f_23, nI_clamp (by omega)], by rw [e_f_25, nI_clamp (by omega)], tl_c hb2 (ok_c hb2 k1 k2 k3).2 htd⟩⟩, by rw [ht]; exact hP9, va_K.moved hW.alike hK, hD9⟩, hS.F ht⟩) hS.2.2 dX12_statement_130
          · refine lv_iconst (v := 0) hx hb dX12_statement_117 (by decide) ?_
            have hpd9 := pd_N (cx := [oX12 g0 m_refused m_kind m_figure m_weight m_got m_setting men msy mdn m_tape m_letter m_letterAt m_told (nI lz) (nI (aa + 1 + k)) (nI kk) m_kept him ki crs m_price m_offer m_gets m_yes m_buys m_ends m_carried m_row rm m_keptRow m_likeGets m_likePrice m_ahead, cI aC m_tape 64 tpf, cI aC m_letter 32 f_23, cI aC m_letterAt 32 f_25, cI aC m_told 96 u_32]) hP hD [3, 4, 0, 1, 2] (by decide) rfl
            have hP9 := hpd9.1
            have hD9 := hpd9.2
            refine W.widen (k := 0) (n := 0) (by omega) (by omega) ?_
            exact W.zret (v := 0) hx hb hr rfl (fun t ht hW => ⟨⟨0, ((nI (aa + 1 + k)), f_23, f_25, u_32), rfl, ⟨fun _ => ⟨aa + 1 + k, fl_c2 h0 hb2 k1 k2 k3 k4 (fun z => c_35 ((nx_k (k := 59) hL2 (by omega) hz_109).mpr z)), rfl⟩, fun q => absurd rfl q⟩, by rw [ht]; exact hP9, va_K.moved hW.alike hK, hD9⟩, hS.F ht⟩) hS.2.2 dX12_statement_118
        · obtain ⟨hnd, hat, htd⟩ := hz_74.1 c_33
          have h9 : u_31 = nI (aa + 1) := hat
          subst h9
          refine lv_iconst (v := 0) hx hb dX12_statement_80 (by decide) ?_
          have hpd9 := pd_N (cx := [oX12 g0 m_refused m_kind m_figure m_weight m_got m_setting men msy mdn m_tape m_letter m_letterAt m_told (nI lz) (nI (aa + 1)) (nI kk) m_kept him ki crs m_price m_offer m_gets m_yes m_buys m_ends m_carried m_row rm m_keptRow m_likeGets m_likePrice m_ahead, cI aC m_tape 64 tpf, cI aC m_letter 32 f_23, cI aC m_letterAt 32 f_25, cI aC m_told 96 u_32]) hP hD [2, 3, 0, 1, 4] (by decide) rfl
          have hP9 := hpd9.1
          have hD9 := hpd9.2
          refine W.widen (k := 0) (n := 0) (by omega) (by omega) ?_
          exact W.zret (v := 0) hx hb hr rfl (fun t ht hW => ⟨⟨0, ((nI (aa + 1)), f_23, f_25, u_32), rfl, ⟨fun _ => ⟨aa + 1, fl_c1 h0 hb2 hb1 hnd, rfl⟩, fun q => absurd rfl q⟩, by rw [ht]; exact hP9, va_K.moved hW.alike hK, hD9⟩, hS.F ht⟩) hS.2.2 dX12_statement_81
    · refine lv_iload_n hx hb dX12_statement_17 rfl (lv_at hl 0 rfl) ?_
      refine lv_bipush (v := 108) hx hb dX12_statement_18 (by decide) ?_
      refine lv_icmp_eq (tgt := 25) hx hb dX12_statement_20 (by decide) (fun c_37 => ?_) (fun c_37 => ?_)
      · have hb : aa < lz ∧ Lt aa = 108 := (nx_k (k := 108) hL2 (by omega) hz_1).mp c_37
        obtain ⟨hb1, hb2⟩ := hb
        have h9 : x_1 = nI (Lt aa) := by rw [hz_1]; unfold nxt; rw [if_pos hb1]
        subst h9
        refine lv_aload_n hx hb dX12_statement_25 rfl (lv_at hl 1 rfl) ?_
        refine va_get (D := (dC, dI)) (ci := 12) (v := Value.ref m_letter) (C := RX12) (T := TX12) (N := 33) hx hb hts inX12 hown hK hP 3 rfl rfl 10 (by decide) (hts _ (gw kw_727 rfl)) (fun _ h9 => h9) rfl dX12_statement_26 ?_
        refine lv_aload_n hx hb dX12_statement_29 rfl (lv_at hl 1 rfl) ?_
        refine va_get (D := (dC, dI)) (ci := 12) (v := Value.int (nI kk)) (C := RX12) (T := TX12) (N := 33) hx hb hts inX12 hown hK hP 3 rfl rfl 15 (by decide) (hts _ (gw kw_732 rfl)) (fun _ h9 => h9) rfl dX12_statement_30 ?_
        refine lv_iload_n hx hb dX12_statement_33 rfl (lv_at hl 0 rfl) ?_
        have h_38 : vp_in (nI kk) 32 := vp_in_nI (by omega) (by omega)
        refine va_iast hx hb hK hP hD hS 0 0 rfl rfl h_38 dX12_statement_34 (fun H locs hP hD hS => ?_)
        obtain ⟨f_39, e_f_39⟩ : ∃ y : Nat → Int32, y = upd lf (nI kk : Int32).toNatClampNeg (nI (Lt aa)) := ⟨_, rfl⟩
        have hpd9 : PDx (dC, dI) classes A H [cI aC m_letter 32 f_39, cI aC m_letterAt 32 laf, cI aC m_told 96 tdf, oX12 g0 m_refused m_kind m_figure m_weight m_got m_setting men msy mdn m_tape m_letter m_letterAt m_told (nI lz) (nI aa) (nI kk) m_kept him ki crs m_price m_offer m_gets m_yes m_buys m_ends m_carried m_row rm m_keptRow m_likeGets m_likePrice m_ahead, cI aC m_tape 64 tpf] := by rw [e_f_39]; exact ⟨hP, hD⟩
        have hP := hpd9.1
        have hD := hpd9.2
        clear hpd9
        refine lv_aload_n hx hb dX12_statement_35 rfl (lv_at hl 1 rfl) ?_
        refine va_get (D := (dC, dI)) (ci := 12) (v := Value.ref m_letterAt) (C := RX12) (T := TX12) (N := 33) hx hb hts inX12 hown hK hP 3 rfl rfl 11 (by decide) (hts _ (gw kw_728 rfl)) (fun _ h9 => h9) rfl dX12_statement_36 ?_
        refine lv_aload_n hx hb dX12_statement_39 rfl (lv_at hl 1 rfl) ?_
        refine va_get (D := (dC, dI)) (ci := 12) (v := Value.int (nI kk)) (C := RX12) (T := TX12) (N := 33) hx hb hts inX12 hown hK hP 3 rfl rfl 15 (by decide) (hts _ (gw kw_732 rfl)) (fun _ h9 => h9) rfl dX12_statement_40 ?_
        refine lv_aload_n hx hb dX12_statement_43 rfl (lv_at hl 1 rfl) ?_
        refine va_get (D := (dC, dI)) (ci := 12) (v := Value.int (nI aa)) (C := RX12) (T := TX12) (N := 33) hx hb hts inX12 hown hK hP 3 rfl rfl 14 (by decide) (hts _ (gw kw_731 rfl)) (fun _ h9 => h9) rfl dX12_statement_44 ?_
        have h_40 : vp_in (nI kk) 32 := vp_in_nI (by omega) (by omega)
        refine va_iast hx hb hK hP hD hS 1 0 rfl rfl h_40 dX12_statement_47 (fun H locs hP hD hS => ?_)
        obtain ⟨f_41, e_f_41⟩ : ∃ y : Nat → Int32, y = upd laf (nI kk : Int32).toNatClampNeg (nI aa) := ⟨_, rfl⟩
        have hpd9 : PDx (dC, dI) classes A H [cI aC m_letter 32 f_39, cI aC m_letterAt 32 f_41, cI aC m_told 96 tdf, oX12 g0 m_refused m_kind m_figure m_weight m_got m_setting men msy mdn m_tape m_letter m_letterAt m_told (nI lz) (nI aa) (nI kk) m_kept him ki crs m_price m_offer m_gets m_yes m_buys m_ends m_carried m_row rm m_keptRow m_likeGets m_likePrice m_ahead, cI aC m_tape 64 tpf] := by rw [e_f_41]; exact ⟨hP, hD⟩
        have hP := hpd9.1
        have hD := hpd9.2
        clear hpd9
        refine lv_aload_n hx hb dX12_statement_48 rfl (lv_at hl 1 rfl) ?_
        refine lv_dup hx hb dX12_statement_49 rfl ?_
        refine va_get (D := (dC, dI)) (ci := 12) (v := Value.int (nI aa)) (C := RX12) (T := TX12) (N := 33) hx hb hts inX12 hown hK hP 3 rfl rfl 14 (by decide) (hts _ (gw kw_731 rfl)) (fun _ h9 => h9) rfl dX12_statement_50 ?_
        refine lv_iconst (v := 1) hx hb dX12_statement_53 (by decide) ?_
        refine lv_iadd hx hb dX12_statement_54 ?_
        refine lv_topi (fun x_42 e_42 => ?_)
        refine va_put (D := (dC, dI)) (ci := 12) (v := Value.int x_42) (ty := .int) (C := RX12) (T := TX12) (N := 33) hx hb hts inX12 tyX12 tyX12_ok nmX12 hown hK hP hD hS 3 rfl rfl 14 (by decide) (hts _ (gw kw_731 rfl)) (fun _ h9 => h9) rfl (by decide +kernel) rfl rfl (Nat.le_of_ble_eq_true rfl) dX12_statement_55 (fun H locs hP hD hS => ?_)
        have hpd9 : PDx (dC, dI) classes A H [cI aC m_letter 32 f_39, cI aC m_letterAt 32 f_41, cI aC m_told 96 tdf, oX12 g0 m_refused m_kind m_figure m_weight m_got m_setting men msy mdn m_tape m_letter m_letterAt m_told (nI lz) x_42 (nI kk) m_kept him ki crs m_price m_offer m_gets m_yes m_buys m_ends m_carried m_row rm m_keptRow m_likeGets m_likePrice m_ahead, cI aC m_tape 64 tpf] := ⟨hP, hD⟩
        have hP := hpd9.1
        have hD := hpd9.2
        clear hpd9
        have h9 : x_42 = nI (aa + 1) := by rw [e_42, nI_1]
        subst h9
        refine lv_iconst (v := 3) hx hb dX12_statement_58 (by decide) ?_
        refine lv_aload_n hx hb dX12_statement_59 rfl (lv_at hl 1 rfl) ?_
        refine va_get (D := (dC, dI)) (ci := 12) (v := Value.int (nI kk)) (C := RX12) (T := TX12) (N := 33) hx hb hts inX12 hown hK hP 3 rfl rfl 15 (by decide) (hts _ (gw kw_732 rfl)) (fun _ h9 => h9) rfl dX12_statement_60 ?_
        refine lv_imul hx hb dX12_statement_63 ?_
        refine lv_topi (fun x_43 e_43 => ?_)
        have h9 : x_43 = nI (3 * kk) := by rw [e_43]; exact pk_mul 3 kk
        subst h9
        refine lv_istore_n (lv' := [(2, Value.int (nI (3 * kk))), (1, Value.int (nI (Lt aa))), (0, Value.ref g0)]) hx hb dX12_statement_64 rfl hl (by decide) rfl (fun ls hl => ?_)
        refine lv_iload_n hx hb dX12_statement_65 rfl (lv_at hl 1 rfl) ?_
        refine lv_bipush (v := 99) hx hb dX12_statement_66 (by decide) ?_
        refine lv_icmp_ne (tgt := 82) hx hb dX12_statement_68 (by decide) (fun c_44 => ?_) (fun c_44 => ?_)
        · refine lv_iconst (v := 0) hx hb dX12_statement_82 (by decide) ?_
          refine lv_istore_n (lv' := [(3, Value.int 0), (2, Value.int (nI (3 * kk))), (1, Value.int (nI (Lt aa))), (0, Value.ref g0)]) hx hb dX12_statement_83 rfl hl (by decide) rfl (fun ls hl => ?_)
          have lp_84 : ∀ (fu : Nat) (k : Nat) (td9 : Nat → Int32) (hfu : 3 - k < fu) (hk : k ≤ 3 ∧ aa + 1 + k ≤ lz) (hrn : lrn Lt (aa + 1 + k) = 1 + k) (htl : ∀ i, i < k → dig (Lt (aa + 1 + i)) ∧ td9 (3 * kk + i) = nI (Lt (aa + 1 + i) - 48)) (hfr : ∀ j, j < 3 * kk → td9 j = tdf j) (H : Heap) (locs : List Loc) (ls : Array Slot), va_P (dC, dI) classes [cI aC m_letter 32 f_39, cI aC m_letterAt 32 f_41, cI aC m_told 96 td9, oX12 g0 m_refused m_kind m_figure m_weight m_got m_setting men msy mdn m_tape m_letter m_letterAt m_told (nI lz) (nI (aa + 1 + k)) (nI kk) m_kept him ki crs m_price m_offer m_gets m_yes m_buys m_ends m_carried m_row rm m_keptRow m_likeGets m_likePrice m_ahead, cI aC m_tape 64 tpf] H → va_D A [cI aC m_letter 32 f_39, cI aC m_letterAt 32 f_41, cI aC m_told 96 td9, oX12 g0 m_refused m_kind m_figure m_weight m_got m_setting men msy mdn m_tape m_letter m_letterAt m_told (nI lz) (nI (aa + 1 + k)) (nI kk) m_kept him ki crs m_price m_offer m_gets m_yes m_buys m_ends m_carried m_row rm m_keptRow m_likeGets m_likePrice m_ahead, cI aC m_tape 64 tpf] → va_S A s.heap H locs → lv_has ls 4 [(0, Value.ref g0), (1, Value.int (nI (Lt aa))), (2, Value.int (nI (3 * kk))), (3, Value.int (nI k))] → W p l e (headSpec (wW yX12_statement cX12_statement 4 (some .boolean)) ({ frames := 2, cells := 0, slots := 0, locals := 46 } : Room)).room s m ([Value.ref g0] : List Value).toArray below meth c H locs 0 0 (MQ below (va_Qi (fun (r : Int32) (u : Int32 × (Nat → Int32) × (Nat → Int32) × (Nat → Int32)) => match u with | (at2, lf2, laf2, td2) => (r = 0 → ∃ q, FLP Lt lz q ∧ at2 = nI q) ∧ (¬ r = 0 → ∃ q, STM Lt aa q ∧ q < lz ∧ Lt q = 59 ∧ at2 = nI (q + 1) ∧ lf2 = upd lf kk (nI (Lt aa)) ∧ laf2 = upd laf kk (nI aa) ∧ TLD Lt aa q kk td2 ∧ ∀ j, j < 3 * kk → td2 j = tdf j)) (fun (u : Int32 × (Nat → Int32) × (Nat → Int32) × (Nat → Int32)) (t : State) => match u with | (at2, lf2, laf2, td2) => va_P (dC, dI) classes [oX12 g0 m_refused m_kind m_figure m_weight m_got m_setting men msy mdn m_tape m_letter m_letterAt m_told (nI lz) at2 (nI kk) m_kept him ki crs m_price m_offer m_gets m_yes m_buys m_ends m_carried m_row rm m_keptRow m_likeGets m_likePrice m_ahead, cI aC m_tape 64 tpf, cI aC m_letter 32 lf2, cI aC m_letterAt 32 laf2, cI aC m_told 96 td2] t.heap ∧ va_K (dC, dI) classes (TY aC) t ∧ va_D A [oX12 g0 m_refused m_kind m_figure m_weight m_got m_setting men msy mdn m_tape m_letter m_letterAt m_told (nI lz) at2 (nI kk) m_kept him ki crs m_price m_offer m_gets m_yes m_buys m_ends m_carried m_row rm m_keptRow m_likeGets m_likePrice m_ahead, cI aC m_tape 64 tpf, cI aC m_letter 32 lf2, cI aC m_letterAt 32 laf2, cI aC m_told 96 td2]) A) ([Value.ref g0] : List Value).toArray s 0 0 A) (F0 m 84 ls []) := by
            intro fu
            induction fu with
            | zero => intro k td9 hfu; exact absurd hfu (Nat.not_lt_zero _)
            | succ fu ih_84 =>
              intro k td9 hfu hk hrn htl hfr H locs ls hP hD hS hl
              refine lv_iload_n hx hb dX12_statement_84 rfl (lv_at hl 3 rfl) ?_
              refine lv_iconst (v := 3) hx hb dX12_statement_85 (by decide) ?_
              refine lv_icmp_ge (tgt := 108) hx hb dX12_statement_86 (by decide) (fun c_45 => ?_) (fun c_45 => ?_)
              · have hk3 : k = 3 := by
                  rcases Nat.lt_or_ge k 3 with q | q
                  · exact absurd c_45 (nI_ge (b := 3) q (by omega))
                  · omega
                refine lv_aload_n hx hb dX12_statement_108 rfl (lv_at hl 0 rfl) ?_
                have hpd9 := pdf_N (cx := [oX12 g0 m_refused m_kind m_figure m_weight m_got m_setting men msy mdn m_tape m_letter m_letterAt m_told (nI lz) (nI (aa + 1 + k)) (nI kk) m_kept him ki crs m_price m_offer m_gets m_yes m_buys m_ends m_carried m_row rm m_keptRow m_likeGets m_likePrice m_ahead, cI aC m_tape 64 tpf]) hP hD hS hA [3, 4] (by decide) rfl
                have hPc := hpd9.1
                have hDc := hpd9.2.1
                have hFc := hpd9.2.2
                clear hpd9
                refine va_calli (va_runV (As := []) (rest := []) ⟨hx, hb, hml, hown, hts⟩ (c_X12_next l dC dI aC H.size g0 m_refused m_kind m_figure m_weight m_got m_setting m_tape m_letter m_letterAt m_told m_kept m_price m_offer m_gets m_yes m_buys m_ends m_carried m_row m_keptRow m_likeGets m_likePrice m_ahead men msy mdn (nI kk) him ki crs rm lz (aa + 1 + k) Lt tpf (hlt0) (by omega)) ⟨(callB_of 0 hts (gG kw_839) rfl rfl rfl (hts _ (gw kw_13 rfl)) (hts _ (gw kw_836 rfl)) hd_X12_next ⟨Nat.le_of_ble_eq_true rfl, Nat.le_of_ble_eq_true rfl⟩), (hts _ (gw kw_838 rfl)), (hts _ (gw ks_37 rfl))⟩ ⟨fb_std, va_recv (q := (RX12, TX12, 33)) hK hPc (ci := 12) (q0 := 0) rfl rfl, pre_std hPc hK hDc hN⟩ rfl rfl hl.1 rfl (lv_room (Nat.le_of_ble_eq_true rfl)) dX12_statement_109 ⟨Nat.le_of_ble_eq_true rfl, Nat.le_of_ble_eq_true rfl⟩) hS (fun q _ h => hFc q h) hFc (fun x_46 u9 t9 H1 locs ht hvm hw_46 hB hz1 hk1 hS => ?_)
                obtain ⟨hP1, hK1, hD1⟩ := hB
                rw [ht] at hP1
                clear hK1
                try dsimp only at hw_46
                have hpd9 : PDx (dC, dI) classes A H1 [cI aC m_letter 32 f_39, cI aC m_letterAt 32 f_41, cI aC m_told 96 td9, oX12 g0 m_refused m_kind m_figure m_weight m_got m_setting men msy mdn m_tape m_letter m_letterAt m_told (nI lz) (nI (aa + 1 + k)) (nI kk) m_kept him ki crs m_price m_offer m_gets m_yes m_buys m_ends m_carried m_row rm m_keptRow m_likeGets m_likePrice m_ahead, cI aC m_tape 64 tpf] := jn_N (wr := [cI aC m_letter 32 f_39, cI aC m_letterAt 32 f_41, cI aC m_told 96 td9]) hFc hk1 hP1 hD1 hP hD [3, 4] [0, 1, 2] rfl rfl (by decide) (by decide)
                have hP := hpd9.1
                have hD := hpd9.2
                clear hpd9
                generalize H1 = H at hP hS ⊢
                clear hPc hDc hFc hz1 hk1 hP1 hD1 ht hvm
                have hz_109 := hw_46
                refine lv_bipush (v := 59) hx hb dX12_statement_112 (by decide) ?_
                refine lv_icmp_eq (tgt := 119) hx hb dX12_statement_114 (by decide) (fun c_47 => ?_) (fun c_47 => ?_)
                · refine lv_aload_n hx hb dX12_statement_119 rfl (lv_at hl 0 rfl) ?_
                  refine lv_dup hx hb dX12_statement_120 rfl ?_
                  refine va_get (D := (dC, dI)) (ci := 12) (v := Value.int (nI (aa + 1 + k))) (C := RX12) (T := TX12) (N := 33) hx hb hts inX12 hown hK hP 3 rfl rfl 14 (by decide) (hts _ (gw kw_731 rfl)) (fun _ h9 => h9) rfl dX12_statement_121 ?_
                  refine lv_iconst (v := 1) hx hb dX12_statement_124 (by decide) ?_
                  refine lv_iadd hx hb dX12_statement_125 ?_
                  refine lv_topi (fun x_48 e_48 => ?_)
                  refine va_put (D := (dC, dI)) (ci := 12) (v := Value.int x_48) (ty := .int) (C := RX12) (T := TX12) (N := 33) hx hb hts inX12 tyX12 tyX12_ok nmX12 hown hK hP hD hS 3 rfl rfl 14 (by decide) (hts _ (gw kw_731 rfl)) (fun _ h9 => h9) rfl (by decide +kernel) rfl rfl (Nat.le_of_ble_eq_true rfl) dX12_statement_126 (fun H locs hP hD hS => ?_)
                  have hpd9 : PDx (dC, dI) classes A H [cI aC m_letter 32 f_39, cI aC m_letterAt 32 f_41, cI aC m_told 96 td9, oX12 g0 m_refused m_kind m_figure m_weight m_got m_setting men msy mdn m_tape m_letter m_letterAt m_told (nI lz) x_48 (nI kk) m_kept him ki crs m_price m_offer m_gets m_yes m_buys m_ends m_carried m_row rm m_keptRow m_likeGets m_likePrice m_ahead, cI aC m_tape 64 tpf] := ⟨hP, hD⟩
                  have hP := hpd9.1
                  have hD := hpd9.2
                  clear hpd9
                  have h9 : x_48 = nI (aa + 1 + k + 1) := by rw [e_48, nI_1]
                  subst h9
                  refine lv_iconst (v := 1) hx hb dX12_statement_129 (by decide) ?_
                  have hpd9 := pd_N (cx := [oX12 g0 m_refused m_kind m_figure m_weight m_got m_setting men msy mdn m_tape m_letter m_letterAt m_told (nI lz) (nI (aa + 1 + k + 1)) (nI kk) m_kept him ki crs m_price m_offer m_gets m_yes m_buys m_ends m_carried m_row rm m_keptRow m_likeGets m_likePrice m_ahead, cI aC m_tape 64 tpf, cI aC m_letter 32 f_39, cI aC m_letterAt 32 f_41, cI aC m_told 96 td9]) hP hD [3, 4, 0, 1, 2] (by decide) rfl
                  have hP9 := hpd9.1
                  have hD9 := hpd9.2
                  refine W.widen (k := 0) (n := 0) (by omega) (by omega) ?_
                  exact W.zret (v := 1) hx hb hr rfl (fun t ht hW => ⟨⟨1, ((nI (aa + 1 + k + 1)), f_39, f_41, td9), rfl, ⟨fun q => absurd q (by decide), fun _ => ⟨aa + 1 + k, by subst hk3; exact (tl_m (e := aa + 4) (k := kk) (Or.inr hb2) htl).1, ((nx_k (k := 59) hL2 (by omega) hz_109).mp c_47).1, ((nx_k (k := 59) hL2 (by omega) hz_109).mp c_47).2, rfl, by rw [e_f_39, nI_clamp (by omega)], by rw [e_f_41, nI_clamp (by omega)], by subst hk3; exact ⟨(tl_m (Or.inr hb2) htl).2, hfr⟩⟩⟩, by rw [ht]; exact hP9, va_K.moved hW.alike hK, hD9⟩, hS.F ht⟩) hS.2.2 dX12_statement_130
                · refine lv_iconst (v := 0) hx hb dX12_statement_117 (by decide) ?_
                  have hpd9 := pd_N (cx := [oX12 g0 m_refused m_kind m_figure m_weight m_got m_setting men msy mdn m_tape m_letter m_letterAt m_told (nI lz) (nI (aa + 1 + k)) (nI kk) m_kept him ki crs m_price m_offer m_gets m_yes m_buys m_ends m_carried m_row rm m_keptRow m_likeGets m_likePrice m_ahead, cI aC m_tape 64 tpf, cI aC m_letter 32 f_39, cI aC m_letterAt 32 f_41, cI aC m_told 96 td9]) hP hD [3, 4, 0, 1, 2] (by decide) rfl
                  have hP9 := hpd9.1
                  have hD9 := hpd9.2
                  refine W.widen (k := 0) (n := 0) (by omega) (by omega) ?_
                  exact W.zret (v := 0) hx hb hr rfl (fun t ht hW => ⟨⟨0, ((nI (aa + 1 + k)), f_39, f_41, td9), rfl, ⟨fun _ => ⟨aa + 1 + k, fl_m2 (by rw [hrn, hk3]) (by omega) (fun z => c_47 ((nx_k (k := 59) hL2 (by omega) hz_109).mpr z)), rfl⟩, fun q => absurd rfl q⟩, by rw [ht]; exact hP9, va_K.moved hW.alike hK, hD9⟩, hS.F ht⟩) hS.2.2 dX12_statement_118
              · have hlt : k < 3 := by
                  rcases Nat.lt_or_ge k 3 with q | q
                  · exact q
                  · exact absurd (nI_le (a := 3) q (by omega)) c_45
                refine lv_aload_n hx hb dX12_statement_89 rfl (lv_at hl 0 rfl) ?_
                refine lv_iload_n hx hb dX12_statement_90 rfl (lv_at hl 2 rfl) ?_
                refine lv_iload_n hx hb dX12_statement_91 rfl (lv_at hl 3 rfl) ?_
                refine lv_iadd hx hb dX12_statement_92 ?_
                refine lv_topi (fun x_49 e_49 => ?_)
                have h9 : x_49 = nI (3 * kk + k) := by rw [e_49, nI_add]
                subst h9
                refine lv_iconst (v := 1) hx hb dX12_statement_93 (by decide) ?_
                refine lv_topi (fun x_50 e_50 => ?_)
                have h9 : x_50 = nI 1 := by rw [e_50]; rfl
                subst h9
                have hpd9 := pdf_N (cx := [oX12 g0 m_refused m_kind m_figure m_weight m_got m_setting men msy mdn m_tape m_letter m_letterAt m_told (nI lz) (nI (aa + 1 + k)) (nI kk) m_kept him ki crs m_price m_offer m_gets m_yes m_buys m_ends m_carried m_row rm m_keptRow m_likeGets m_likePrice m_ahead, cI aC m_tape 64 tpf, cI aC m_told 96 td9]) hP hD hS hA [3, 4, 2] (by decide) rfl
                have hPc := hpd9.1
                have hDc := hpd9.2.1
                have hFc := hpd9.2.2
                clear hpd9
                refine va_calli (va_runV (As := [Value.int (nI (3 * kk + k)), Value.int (nI 1)]) (rest := []) ⟨hx, hb, hml, hown, hts⟩ (c_X12_reads l dC dI aC H.size g0 m_refused m_kind m_figure m_weight m_got m_setting m_tape m_letter m_letterAt m_told m_kept m_price m_offer m_gets m_yes m_buys m_ends m_carried m_row m_keptRow m_likeGets m_likePrice m_ahead men msy mdn (nI kk) him ki crs rm lz (aa + 1 + k) Lt tpf (3 * kk + k) 1 td9 (hlt0) (by omega) (by omega) (by omega)) ⟨(callB_of 2 hts (gG kw_843) rfl rfl rfl (hts _ (gw kw_13 rfl)) (hts _ (gw kw_840 rfl)) hd_X12_reads ⟨Nat.le_of_ble_eq_true rfl, Nat.le_of_ble_eq_true rfl⟩), (hts _ (gw kw_842 rfl)), (hts _ (gw ks_38 rfl))⟩ ⟨fb_std, va_recv (q := (RX12, TX12, 33)) hK hPc (ci := 12) (q0 := 0) rfl rfl, pre_std hPc hK hDc hN⟩ rfl rfl hl.1 rfl (lv_room (Nat.le_of_ble_eq_true rfl)) dX12_statement_94 ⟨Nat.le_of_ble_eq_true rfl, Nat.le_of_ble_eq_true rfl⟩) hS (fun q _ h => hFc q h) hFc (fun x_51 u9 t9 H1 locs ht hvm hw_51 hB hz1 hk1 hS => ?_)
                obtain ⟨u_52, u_53⟩ := u9
                obtain ⟨hP1, hK1, hD1⟩ := hB
                rw [ht] at hP1
                clear hK1
                try dsimp only at hw_51
                have hpd9 : PDx (dC, dI) classes A H1 [cI aC m_letter 32 f_39, cI aC m_letterAt 32 f_41, oX12 g0 m_refused m_kind m_figure m_weight m_got m_setting men msy mdn m_tape m_letter m_letterAt m_told (nI lz) u_52 (nI kk) m_kept him ki crs m_price m_offer m_gets m_yes m_buys m_ends m_carried m_row rm m_keptRow m_likeGets m_likePrice m_ahead, cI aC m_tape 64 tpf, cI aC m_told 96 u_53] := jn_N (wr := [cI aC m_letter 32 f_39, cI aC m_letterAt 32 f_41]) hFc hk1 hP1 hD1 hP hD [3, 4, 2] [0, 1] rfl rfl (by decide) (by decide)
                have hP := hpd9.1
                have hD := hpd9.2
                clear hpd9
                generalize H1 = H at hP hS ⊢
                clear hPc hDc hFc hz1 hk1 hP1 hD1 ht hvm
                have hz_94 := hw_51
                refine lv_if_ne (tgt := 102) hx hb dX12_statement_97 (by decide) (fun c_54 => ?_) (fun c_54 => ?_)
                · obtain ⟨x, x1, x2, x3, x4, hat, htd⟩ := hz_94.2 c_54
                  have hx : x = 1 := by omega
                  have hts9 := td_s htl hfr hx x3 htd
                  subst hx
                  have hr9 := r_m hrn (by omega) (x3 0 (by omega)).2
                  have hq9 := (x3 0 (by omega)).1
                  have h9 : u_52 = nI (aa + 1 + (k + 1)) := hat
                  subst h9
                  obtain ⟨x_55, e_55⟩ : ∃ y : Int32, y = (nI k) + 1 := ⟨_, rfl⟩
                  refine lv_iinc (v := x_55) (lv' := [(3, Value.int x_55), (0, Value.ref g0), (1, Value.int (nI (Lt aa))), (2, Value.int (nI (3 * kk)))]) hx hb dX12_statement_102 hl (k := 3) rfl (by rw [e_55]; rfl) (by decide) rfl (fun ls hl => ?_)
                  have h9 : x_55 = nI (k + 1) := by rw [e_55, nI_1]
                  subst h9
                  refine lv_goto (tgt := 84) hx hb dX12_statement_105 (by decide) ?_
                  exact ih_84 (k + 1) u_53 (by omega) (by omega) (hr9) (hts9.1) (hts9.2) _ _ _ (hP.sub [0, 1, 4, 2, 3] rfl) (hD.sub [0, 1, 4, 2, 3] (by decide) rfl) hS (lv_sub hl [1, 2, 3, 0] rfl)
                · obtain ⟨hnd, hat, htd⟩ := hz_94.1 c_54
                  have h9 : u_52 = nI (aa + 1 + k) := hat
                  subst h9
                  refine lv_iconst (v := 0) hx hb dX12_statement_100 (by decide) ?_
                  have hpd9 := pd_N (cx := [oX12 g0 m_refused m_kind m_figure m_weight m_got m_setting men msy mdn m_tape m_letter m_letterAt m_told (nI lz) (nI (aa + 1 + k)) (nI kk) m_kept him ki crs m_price m_offer m_gets m_yes m_buys m_ends m_carried m_row rm m_keptRow m_likeGets m_likePrice m_ahead, cI aC m_tape 64 tpf, cI aC m_letter 32 f_39, cI aC m_letterAt 32 f_41, cI aC m_told 96 u_53]) hP hD [2, 3, 0, 1, 4] (by decide) rfl
                  have hP9 := hpd9.1
                  have hD9 := hpd9.2
                  refine W.widen (k := 0) (n := 0) (by omega) (by omega) ?_
                  exact W.zret (v := 0) hx hb hr rfl (fun t ht hW => ⟨⟨0, ((nI (aa + 1 + k)), f_39, f_41, u_53), rfl, ⟨fun _ => ⟨aa + 1 + k, fl_m hrn (by omega) (by omega) hnd, rfl⟩, fun q => absurd rfl q⟩, by rw [ht]; exact hP9, va_K.moved hW.alike hK, hD9⟩, hS.F ht⟩) hS.2.2 dX12_statement_101
          exact lp_84 ((3 - 0) + 1) 0 tdf (Nat.lt_succ_self _) (by omega) (r_m1 h0 (by omega)) (fun i hi => by omega) (fun j hj => rfl) _ _ _ (hP.sub [0, 1, 2, 3, 4] rfl) (hD.sub [0, 1, 2, 3, 4] (by decide) rfl) hS (lv_sub hl [3, 2, 1, 0] rfl)
        · exact absurd ((nI_b0 (k := 99) (hL2 aa hb1) (by omega)).mp c_44) (by omega)
      · refine lv_iconst (v := 0) hx hb dX12_statement_23 (by decide) ?_
        have hpd9 := pd_N (cx := [oX12 g0 m_refused m_kind m_figure m_weight m_got m_setting men msy mdn m_tape m_letter m_letterAt m_told (nI lz) (nI aa) (nI kk) m_kept him ki crs m_price m_offer m_gets m_yes m_buys m_ends m_carried m_row rm m_keptRow m_likeGets m_likePrice m_ahead, cI aC m_tape 64 tpf, cI aC m_letter 32 lf, cI aC m_letterAt 32 laf, cI aC m_told 96 tdf]) hP hD [3, 4, 0, 1, 2] (by decide) rfl
        have hP9 := hpd9.1
        have hD9 := hpd9.2
        refine W.widen (k := 0) (n := 0) (by omega) (by omega) ?_
        exact W.zret (v := 0) hx hb hr rfl (fun t ht hW => ⟨⟨0, ((nI aa), lf, laf, tdf), rfl, ⟨fun _ => ⟨aa, fl_0 haa h0 haz ⟨fun z => c_2 ((nx_k (k := 109) hL2 (by omega) hz_1).mpr z), fun z => c_21 ((nx_k (k := 99) hL2 (by omega) hz_1).mpr z), fun z => c_37 ((nx_k (k := 108) hL2 (by omega) hz_1).mpr z)⟩, rfl⟩, fun q => absurd rfl q⟩, by rw [ht]; exact hP9, va_K.moved hW.alike hK, hD9⟩, hS.F ht⟩) hS.2.2 dX12_statement_24
