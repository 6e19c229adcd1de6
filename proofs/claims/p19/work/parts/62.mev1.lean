theorem sumr_cg {f g : Nat → Nat} {a : Nat} : ∀ {k : Nat}, (∀ j, a ≤ j → j < a + k → f j = g j) → sumr f a k = sumr g a k
  | 0, _ => rfl
  | k + 1, h => by
    show sumr f a k + f (a + k) = sumr g a k + g (a + k)
    rw [sumr_cg (k := k) (fun j h1 h2 => h j h1 (by omega)), h (a + k) (by omega) (by omega)]
theorem yw_and {W : Nat → Nat} {v z : Int32} {i n : Nat} (hi : i ≤ n) (hn : n ≤ 8) (h : ∀ b, b < 32 → bt z b = decide (i ≤ b ∧ b < n)) : yw W (v &&& z) 0 n = yw W v i (n - i) := by
  rw [yw_from hi (fun q hq => by rw [b_and, h q (by omega), decide_eq_false (by omega), Bool.and_false])]
  unfold yw
  refine sumr_cg (fun j h1 h2 => ?_)
  rw [b_and, h j (by omega), decide_eq_true (by omega), Bool.and_true]
theorem bnd_0 {v lo hi r : Int32} (h : r = if v < lo then -4 else if hi < v then -6 else 0) (hr : r = 0) : ¬ v < lo ∧ ¬ hi < v := by
  by_cases h1 : v < lo
  · rw [if_pos h1, hr] at h; exact absurd h (by decide)
  · by_cases h2 : hi < v
    · rw [if_neg h1, if_pos h2, hr] at h; exact absurd h (by decide)
    · exact ⟨h1, h2⟩
theorem bnd_n {v lo hi r : Int32} (h : r = if v < lo then -4 else if hi < v then -6 else 0) (hr : ¬ r = 0) : (v < lo ∧ r = -4) ∨ (¬ v < lo ∧ hi < v ∧ r = -6) := by
  by_cases h1 : v < lo
  · rw [if_pos h1] at h; exact Or.inl ⟨h1, h⟩
  · by_cases h2 : hi < v
    · rw [if_neg h1, if_pos h2] at h; exact Or.inr ⟨h1, h2, h⟩
    · rw [if_neg h1, if_neg h2] at h; exact absurd h hr
theorem isin_y {v lo hi r : Int32} (h : r = if v < lo then 0 else if hi < v then 0 else 1) (hr : ¬ r = 0) : ¬ v < lo ∧ ¬ hi < v := by
  by_cases h1 : v < lo
  · rw [if_pos h1] at h; exact absurd h hr
  · by_cases h2 : hi < v
    · rw [if_neg h1, if_pos h2] at h; exact absurd h hr
    · exact ⟨h1, h2⟩
theorem isin_n {v lo hi r : Int32} (h : r = if v < lo then 0 else if hi < v then 0 else 1) (hr : r = 0) : v < lo ∨ hi < v := by
  by_cases h1 : v < lo
  · exact Or.inl h1
  · by_cases h2 : hi < v
    · exact Or.inr h2
    · rw [if_neg h1, if_neg h2, hr] at h; exact absurd h (by decide)

set_option maxHeartbeats 1000000 in
set_option maxRecDepth 100000 in
/-- X12_row -/
theorem c_X12_row (l : Launch) (dC : Nat → ClassId) (dI : Nat → Nat → Nat) (aC : Nat → ClassId) (sz : Nat) (g0 : Nat) (m_refused : Nat) (m_kind : Nat) (m_figure : Nat) (m_weight : Nat) (m_got : Nat) (m_setting : Nat) (m_tape : Nat) (m_letter : Nat) (m_letterAt : Nat) (m_told : Nat) (m_kept : Nat) (m_price : Nat) (m_offer : Nat) (m_gets : Nat) (m_yes : Nat) (m_buys : Nat) (m_ends : Nat) (m_carried : Nat) (m_row : Nat) (m_keptRow : Nat) (m_likeGets : Nat) (m_likePrice : Nat) (m_ahead : Nat) (tp : Int32) (mat : Int32) (stm : Int32) (him : Int32) (ki : Int32) (crs : Int32) (n : Nat) (sn : Nat) (dn : Int32) (tz : Nat) (T : Nat → Nat) (tof : Nat → Int32) (mr : Nat → Int32) (a1 : Int32) (hrw : ROW tz T tof) : Met l yX12_row (wW yX12_row cX12_row 3 (some .int)) ({ frames := 1, cells := 0, slots := 0, locals := 22 } : Room) (va_Pc [Value.ref g0, Value.int a1] (fun U => U.heap.size = sz ∧ va_P (dC, dI) classes [oX12 g0 m_refused m_kind m_figure m_weight m_got m_setting (nI n) (nI sn) dn m_tape m_letter m_letterAt m_told tp mat stm m_kept him ki crs m_price m_offer m_gets m_yes m_buys m_ends m_carried m_row (nI tz) m_keptRow m_likeGets m_likePrice m_ahead, cI aC m_row 8 tof, cI aC m_refused 7 mr] U.heap ∧ va_K (dC, dI) classes (TY aC) U ∧ va_D (fun _ => True) [oX12 g0 m_refused m_kind m_figure m_weight m_got m_setting (nI n) (nI sn) dn m_tape m_letter m_letterAt m_told tp mat stm m_kept him ki crs m_price m_offer m_gets m_yes m_buys m_ends m_carried m_row (nI tz) m_keptRow m_likeGets m_likePrice m_ahead, cI aC m_row 8 tof, cI aC m_refused 7 mr] ∧ NX U)) (va_Qi (fun (r : Int32) (u : Int32 × (Nat → Int32) × (Nat → Int32)) => match u with | (ts2, tof2, mr2) => r = rowR tz a1 ∧ ts2 = nI (rowZ tz a1) ∧ ROW (rowZ tz a1) (rowT tz T a1) tof2) (fun (u : Int32 × (Nat → Int32) × (Nat → Int32)) (t : State) => match u with | (ts2, tof2, mr2) => va_P (dC, dI) classes [oX12 g0 m_refused m_kind m_figure m_weight m_got m_setting (nI n) (nI sn) dn m_tape m_letter m_letterAt m_told tp mat stm m_kept him ki crs m_price m_offer m_gets m_yes m_buys m_ends m_carried m_row ts2 m_keptRow m_likeGets m_likePrice m_ahead, cI aC m_row 8 tof2, cI aC m_refused 7 mr2] t.heap ∧ va_K (dC, dI) classes (TY aC) t ∧ va_D (va_A [oX12 g0 m_refused m_kind m_figure m_weight m_got m_setting (nI n) (nI sn) dn m_tape m_letter m_letterAt m_told tp mat stm m_kept him ki crs m_price m_offer m_gets m_yes m_buys m_ends m_carried m_row (nI tz) m_keptRow m_likeGets m_likePrice m_ahead, cI aC m_row 8 tof, cI aC m_refused 7 mr] sz) [oX12 g0 m_refused m_kind m_figure m_weight m_got m_setting (nI n) (nI sn) dn m_tape m_letter m_letterAt m_told tp mat stm m_kept him ki crs m_price m_offer m_gets m_yes m_buys m_ends m_carried m_row ts2 m_keptRow m_likeGets m_likePrice m_ahead, cI aC m_row 8 tof2, cI aC m_refused 7 mr2]) (va_A [oX12 g0 m_refused m_kind m_figure m_weight m_got m_setting (nI n) (nI sn) dn m_tape m_letter m_letterAt m_told tp mat stm m_kept him ki crs m_price m_offer m_gets m_yes m_buys m_ends m_carried m_row (nI tz) m_keptRow m_likeGets m_likePrice m_ahead, cI aC m_row 8 tof, cI aC m_refused 7 mr] sz)) 0 0 (va_A [oX12 g0 m_refused m_kind m_figure m_weight m_got m_setting (nI n) (nI sn) dn m_tape m_letter m_letterAt m_told tp mat stm m_kept him ki crs m_price m_offer m_gets m_yes m_buys m_ends m_carried m_row (nI tz) m_keptRow m_likeGets m_likePrice m_ahead, cI aC m_row 8 tof, cI aC m_refused 7 mr] sz) := by
  refine Met.ofW (cc := cX12_row) (maxL := 3) (ret := (some .int)) (by decide) rfl ?_
  intro p e s m args below meth c s₁ B hml hv
  obtain ⟨rfl, hsz, hP, hK, hD0, hN⟩ := hv
  have hx := B.exec
  have hb := B.bytes
  have hr := B.returns
  have hts0 := atoms_spec (ws := (wW yX12_row cX12_row 3 (some .int))) B.pre
  have hts : ∀ w9 ∈ lw_G, w9.before ([Value.ref g0, Value.int a1] : List Value).toArray s = true := fun w9 h9 => hts0 w9 (List.mem_cons_of_mem _ h9)
  have hown : s.vm.findClass RX12 = some m.cls := findClass_of_methodNamed (x := yX12_row) B.named
  have hlocks := B.notSynchronized
  subst hsz
  have hD := hD0.self (sz := s.heap.size)
  generalize hAe : va_A [oX12 g0 m_refused m_kind m_figure m_weight m_got m_setting (nI n) (nI sn) dn m_tape m_letter m_letterAt m_told tp mat stm m_kept him ki crs m_price m_offer m_gets m_yes m_buys m_ends m_carried m_row (nI tz) m_keptRow m_likeGets m_likePrice m_ahead, cI aC m_row 8 tof, cI aC m_refused 7 mr] s.heap.size = A at hD ⊢
  have hA : ∀ q : Nat, s.heap.size ≤ q → A q := fun q h => by rw [← hAe]; exact Or.inr h
  obtain ⟨H, hHe⟩ : ∃ H : Heap, H = s.heap := ⟨_, rfl⟩
  have hS : va_S A s.heap H [] := by rw [hHe]; exact va_S.rf
  have hP : va_P (dC, dI) classes [oX12 g0 m_refused m_kind m_figure m_weight m_got m_setting (nI n) (nI sn) dn m_tape m_letter m_letterAt m_told tp mat stm m_kept him ki crs m_price m_offer m_gets m_yes m_buys m_ends m_carried m_row (nI tz) m_keptRow m_likeGets m_likePrice m_ahead, cI aC m_row 8 tof, cI aC m_refused 7 mr] H := by rw [hHe]; exact hP
  have hl := lv_entry ([Value.ref g0, Value.int a1]) (n := 3) (Nat.le_of_ble_eq_true rfl)
  rw [lg_entry_eq]
  generalize (lg_sl ([Value.ref g0, Value.int a1]) ++ List.replicate (3 - (lg_sl ([Value.ref g0, Value.int a1])).length) Slot.unset).toArray = ls at hl ⊢
  have hl : lv_has ls 3 [(0, Value.ref g0), (1, Value.int a1)] := hl
  rw [← hHe]
  have ht8 := hrw.1
  refine lv_iload_n hx hb dX12_row_0 rfl (lv_at hl 1 rfl) ?_
  refine lv_iconst (v := 0) hx hb dX12_row_1 (by decide) ?_
  refine lv_bipush (v := 99) hx hb dX12_row_2 (by decide) ?_
  have hpd9 := pdf_N (cx := []) hP hD hS hA [] (by decide) rfl
  have hPc := hpd9.1
  have hDc := hpd9.2.1
  have hFc := hpd9.2.2
  clear hpd9
  refine va_calli (va_runS (As := [Value.int a1, Value.int 0, Value.int 99]) (rest := []) ⟨hx, hb, hml, hown, hts⟩ (c_X12_bound l dC dI aC H.size a1 0 99 ) ⟨(callB_of 3 hts (gG kw_823) rfl rfl rfl (hts _ (gw kw_13 rfl)) (hts _ (gw kw_821 rfl)) hd_X12_bound ⟨Nat.le_of_ble_eq_true rfl, Nat.le_of_ble_eq_true rfl⟩), (hts _ (gw kw_822 rfl))⟩ ⟨fb_std, pre_std hPc hK hDc hN⟩ rfl rfl hl.1 rfl (lv_room (Nat.le_of_ble_eq_true rfl)) dX12_row_4 ⟨Nat.le_of_ble_eq_true rfl, Nat.le_of_ble_eq_true rfl⟩) hS (fun q _ h => hFc q h) hFc (fun x_1 u9 t9 H1 locs ht hvm hw_1 hB hz1 hk1 hS => ?_)
  obtain ⟨hP1, hK1, hD1⟩ := hB
  rw [ht] at hP1
  clear hK1
  try dsimp only at hw_1
  have hpd9 : PDx (dC, dI) classes A H1 [oX12 g0 m_refused m_kind m_figure m_weight m_got m_setting (nI n) (nI sn) dn m_tape m_letter m_letterAt m_told tp mat stm m_kept him ki crs m_price m_offer m_gets m_yes m_buys m_ends m_carried m_row (nI tz) m_keptRow m_likeGets m_likePrice m_ahead, cI aC m_row 8 tof, cI aC m_refused 7 mr] := jn_N (wr := [oX12 g0 m_refused m_kind m_figure m_weight m_got m_setting (nI n) (nI sn) dn m_tape m_letter m_letterAt m_told tp mat stm m_kept him ki crs m_price m_offer m_gets m_yes m_buys m_ends m_carried m_row (nI tz) m_keptRow m_likeGets m_likePrice m_ahead, cI aC m_row 8 tof, cI aC m_refused 7 mr]) hFc hk1 hP1 hD1 hP hD [] [0, 1, 2] rfl rfl (by decide) (by decide)
  have hP := hpd9.1
  have hD := hpd9.2
  clear hpd9
  generalize H1 = H at hP hS ⊢
  clear hPc hDc hFc hz1 hk1 hP1 hD1 ht hvm
  have hz_4 := hw_1
  refine lv_istore_n (lv' := [(2, Value.int x_1), (0, Value.ref g0), (1, Value.int a1)]) hx hb dX12_row_7 rfl hl (by decide) rfl (fun ls hl => ?_)
  refine lv_iload_n hx hb dX12_row_8 rfl (lv_at hl 0 rfl) ?_
  refine lv_if_ne (tgt := 24) hx hb dX12_row_9 (by decide) (fun c_2 => ?_) (fun c_2 => ?_)
  · refine lv_iload_n hx hb dX12_row_24 rfl (lv_at hl 0 rfl) ?_
    refine lv_if_eq (tgt := 34) hx hb dX12_row_25 (by decide) (fun c_3 => ?_) (fun c_3 => ?_)
    · exact absurd c_3 c_2
    · refine lv_aload_n hx hb dX12_row_28 rfl (lv_at hl 1 rfl) ?_
      refine lv_iload_n hx hb dX12_row_29 rfl (lv_at hl 0 rfl) ?_
      have hpd9 := pdf_N (cx := [oX12 g0 m_refused m_kind m_figure m_weight m_got m_setting (nI n) (nI sn) dn m_tape m_letter m_letterAt m_told tp mat stm m_kept him ki crs m_price m_offer m_gets m_yes m_buys m_ends m_carried m_row (nI tz) m_keptRow m_likeGets m_likePrice m_ahead, cI aC m_refused 7 mr]) hP hD hS hA [0, 2] (by decide) rfl
      have hPc := hpd9.1
      have hDc := hpd9.2.1
      have hFc := hpd9.2.2
      clear hpd9
      refine va_calli (va_runV (As := [Value.int x_1]) (rest := []) ⟨hx, hb, hml, hown, hts⟩ (c_X12_no l dC dI aC H.size g0 m_refused m_kind m_figure m_weight m_got m_setting m_tape m_letter m_letterAt m_told m_kept m_price m_offer m_gets m_yes m_buys m_ends m_carried m_row m_keptRow m_likeGets m_likePrice m_ahead (nI n) (nI sn) dn tp mat stm him ki crs (nI tz) x_1 ((-x_1 : Int32).toNatClampNeg) mr (rfl) (by rcases bnd_n hz_4 c_2 with ⟨q1, q2⟩ | ⟨q1, q2, q3⟩ <;> first | (rw [q2]; unfold vp_in; decide) | (rw [q3]; unfold vp_in; decide))) ⟨(callB_of 1 hts (gG kw_827) rfl rfl rfl (hts _ (gw kw_13 rfl)) (hts _ (gw kw_824 rfl)) hd_X12_no ⟨Nat.le_of_ble_eq_true rfl, Nat.le_of_ble_eq_true rfl⟩), (hts _ (gw kw_826 rfl)), (hts _ (gw ks_35 rfl))⟩ ⟨fb_std, va_recv (q := (RX12, TX12, 33)) hK hPc (ci := 12) (q0 := 0) rfl rfl, pre_std hPc hK hDc hN⟩ rfl rfl hl.1 rfl (lv_room (Nat.le_of_ble_eq_true rfl)) dX12_row_30 ⟨Nat.le_of_ble_eq_true rfl, Nat.le_of_ble_eq_true rfl⟩) hS (fun q _ h => hFc q h) hFc (fun x_4 u9 t9 H1 locs ht hvm hw_4 hB hz1 hk1 hS => ?_)
      obtain ⟨u_5, rfl⟩ : ∃ z, z = u9 := ⟨_, rfl⟩
      obtain ⟨hP1, hK1, hD1⟩ := hB
      rw [ht] at hP1
      clear hK1
      try dsimp only at hw_4
      have hpd9 : PDx (dC, dI) classes A H1 [cI aC m_row 8 tof, oX12 g0 m_refused m_kind m_figure m_weight m_got m_setting (nI n) (nI sn) dn m_tape m_letter m_letterAt m_told tp mat stm m_kept him ki crs m_price m_offer m_gets m_yes m_buys m_ends m_carried m_row (nI tz) m_keptRow m_likeGets m_likePrice m_ahead, cI aC m_refused 7 u_5] := jn_N (wr := [cI aC m_row 8 tof]) hFc hk1 hP1 hD1 hP hD [0, 2] [1] rfl rfl (by decide) (by decide)
      have hP := hpd9.1
      have hD := hpd9.2
      clear hpd9
      generalize H1 = H at hP hS ⊢
      clear hPc hDc hFc hz1 hk1 hP1 hD1 ht hvm
      obtain ⟨hv9, -⟩ := hw_4
      have hpd9 := pd_N (cx := [oX12 g0 m_refused m_kind m_figure m_weight m_got m_setting (nI n) (nI sn) dn m_tape m_letter m_letterAt m_told tp mat stm m_kept him ki crs m_price m_offer m_gets m_yes m_buys m_ends m_carried m_row (nI tz) m_keptRow m_likeGets m_likePrice m_ahead, cI aC m_row 8 tof, cI aC m_refused 7 u_5]) hP hD [1, 0, 2] (by decide) rfl
      have hP9 := hpd9.1
      have hD9 := hpd9.2
      refine W.widen (k := 0) (n := 0) (by omega) (by omega) ?_
      exact W.iret (v := x_4) hx hb hr (fun t ht hW => ⟨⟨x_4, ((nI tz), tof, u_5), rfl, by rcases bnd_n hz_4 c_2 with ⟨q1, q2⟩ | ⟨q1, q2, q3⟩ <;> first | exact ⟨by rw [hv9, q2]; unfold rowR; rw [if_pos q1], by unfold rowZ; rw [if_neg (fun q => q.1.1 q1)], ROW_n hrw (fun q => q.1.1 q1)⟩ | exact ⟨by rw [hv9, q3]; unfold rowR; rw [if_neg q1, if_neg (fun q => q.1.2 q2)], by unfold rowZ; rw [if_neg (fun q => q.1.2 q2)], ROW_n hrw (fun q => q.1.2 q2)⟩, by rw [ht]; exact hP9, va_K.moved hW.alike hK, hD9⟩, hS.F ht⟩) hS.2.2 dX12_row_33
  · refine lv_aload_n hx hb dX12_row_12 rfl (lv_at hl 1 rfl) ?_
    refine va_get (D := (dC, dI)) (ci := 12) (v := Value.int (nI tz)) (C := RX12) (T := TX12) (N := 33) hx hb hts inX12 hown hK hP 0 rfl rfl 28 (by decide) (hts _ (gw kw_745 rfl)) (fun _ h9 => h9) rfl dX12_row_13 ?_
    refine lv_bipush (v := 8) hx hb dX12_row_16 (by decide) ?_
    refine lv_icmp_ne (tgt := 24) hx hb dX12_row_18 (by decide) (fun c_6 => ?_) (fun c_6 => ?_)
    · refine lv_iload_n hx hb dX12_row_24 rfl (lv_at hl 0 rfl) ?_
      refine lv_if_eq (tgt := 34) hx hb dX12_row_25 (by decide) (fun c_7 => ?_) (fun c_7 => ?_)
      · have htz8 : tz < 8 := by
          have h7 : tz ≠ 8 := fun q => c_6 (by rw [q]; rfl)
          omega
        refine lv_aload_n hx hb dX12_row_34 rfl (lv_at hl 1 rfl) ?_
        refine va_get (D := (dC, dI)) (ci := 12) (v := Value.ref m_row) (C := RX12) (T := TX12) (N := 33) hx hb hts inX12 hown hK hP 0 rfl rfl 27 (by decide) (hts _ (gw kw_744 rfl)) (fun _ h9 => h9) rfl dX12_row_35 ?_
        refine lv_aload_n hx hb dX12_row_38 rfl (lv_at hl 1 rfl) ?_
        refine va_get (D := (dC, dI)) (ci := 12) (v := Value.int (nI tz)) (C := RX12) (T := TX12) (N := 33) hx hb hts inX12 hown hK hP 0 rfl rfl 28 (by decide) (hts _ (gw kw_745 rfl)) (fun _ h9 => h9) rfl dX12_row_39 ?_
        refine lv_iload_n hx hb dX12_row_42 rfl (lv_at hl 2 rfl) ?_
        have h_8 : vp_in (nI tz) 8 := by first | exact vp_in_nI (by omega) (by omega) | (unfold vp_in; decide) | (subst_vars; first | (unfold vp_in; decide) | exact vp_in_nI (by omega) (by omega))
        refine va_iast hx hb hK hP hD hS 1 0 rfl rfl h_8 dX12_row_43 (fun H locs hP hD hS => ?_)
        obtain ⟨f_9, e_f_9⟩ : ∃ y : Nat → Int32, y = upd tof (nI tz : Int32).toNatClampNeg a1 := ⟨_, rfl⟩
        have hpd9 : PDx (dC, dI) classes A H [oX12 g0 m_refused m_kind m_figure m_weight m_got m_setting (nI n) (nI sn) dn m_tape m_letter m_letterAt m_told tp mat stm m_kept him ki crs m_price m_offer m_gets m_yes m_buys m_ends m_carried m_row (nI tz) m_keptRow m_likeGets m_likePrice m_ahead, cI aC m_row 8 f_9, cI aC m_refused 7 mr] := by rw [e_f_9]; exact ⟨hP, hD⟩
        have hP := hpd9.1
        have hD := hpd9.2
        clear hpd9
        refine lv_aload_n hx hb dX12_row_44 rfl (lv_at hl 1 rfl) ?_
        refine lv_dup hx hb dX12_row_45 rfl ?_
        refine va_get (D := (dC, dI)) (ci := 12) (v := Value.int (nI tz)) (C := RX12) (T := TX12) (N := 33) hx hb hts inX12 hown hK hP 0 rfl rfl 28 (by decide) (hts _ (gw kw_745 rfl)) (fun _ h9 => h9) rfl dX12_row_46 ?_
        refine lv_iconst (v := 1) hx hb dX12_row_49 (by decide) ?_
        refine lv_iadd hx hb dX12_row_50 ?_
        refine lv_topi (fun x_10 e_10 => ?_)
        have h9 : x_10 = nI (tz + 1) := by rw [e_10, nI_1]
        subst h9
        refine va_put (D := (dC, dI)) (ci := 12) (v := Value.int (nI (tz + 1))) (ty := .int) (C := RX12) (T := TX12) (N := 33) hx hb hts inX12 tyX12 tyX12_ok nmX12 hown hK hP hD hS 0 rfl rfl 28 (by decide) (hts _ (gw kw_745 rfl)) (fun _ h9 => h9) rfl (by decide +kernel) rfl rfl (Nat.le_of_ble_eq_true rfl) dX12_row_51 (fun H locs hP hD hS => ?_)
        have hpd9 : PDx (dC, dI) classes A H [oX12 g0 m_refused m_kind m_figure m_weight m_got m_setting (nI n) (nI sn) dn m_tape m_letter m_letterAt m_told tp mat stm m_kept him ki crs m_price m_offer m_gets m_yes m_buys m_ends m_carried m_row (nI (tz + 1)) m_keptRow m_likeGets m_likePrice m_ahead, cI aC m_row 8 f_9, cI aC m_refused 7 mr] := ⟨hP, hD⟩
        have hP := hpd9.1
        have hD := hpd9.2
        clear hpd9
        refine lv_aload_n hx hb dX12_row_54 rfl (lv_at hl 1 rfl) ?_
        refine va_get (D := (dC, dI)) (ci := 12) (v := Value.int (nI (tz + 1))) (C := RX12) (T := TX12) (N := 33) hx hb hts inX12 hown hK hP 0 rfl rfl 28 (by decide) (hts _ (gw kw_745 rfl)) (fun _ h9 => h9) rfl dX12_row_55 ?_
        have hpd9 := pd_N (cx := [oX12 g0 m_refused m_kind m_figure m_weight m_got m_setting (nI n) (nI sn) dn m_tape m_letter m_letterAt m_told tp mat stm m_kept him ki crs m_price m_offer m_gets m_yes m_buys m_ends m_carried m_row (nI (tz + 1)) m_keptRow m_likeGets m_likePrice m_ahead, cI aC m_row 8 f_9, cI aC m_refused 7 mr]) hP hD [0, 1, 2] (by decide) rfl
        have hP9 := hpd9.1
        have hD9 := hpd9.2
        refine W.widen (k := 0) (n := 0) (by omega) (by omega) ?_
        exact W.iret (v := nI (tz + 1)) hx hb hr (fun t ht hW => ⟨⟨(nI (tz + 1)), ((nI (tz + 1)), f_9, mr), rfl, ⟨by unfold rowR; rw [if_neg (bnd_0 hz_4 c_2).1, if_pos ⟨bnd_0 hz_4 c_2, htz8⟩], by unfold rowZ; rw [if_pos ⟨bnd_0 hz_4 c_2, htz8⟩], ROW_y hrw ⟨bnd_0 hz_4 c_2, htz8⟩ (by rw [e_f_9, nI_clamp (by omega)])⟩, by rw [ht]; exact hP9, va_K.moved hW.alike hK, hD9⟩, hS.F ht⟩) hS.2.2 dX12_row_58
      · exact absurd c_2 c_7
    · refine lv_bipush (v := -6) hx hb dX12_row_21 (by decide) ?_
      refine lv_istore_n (lv' := [(2, Value.int (-6)), (0, Value.ref g0), (1, Value.int a1)]) hx hb dX12_row_23 rfl hl (by decide) rfl (fun ls hl => ?_)
      refine lv_iload_n hx hb dX12_row_24 rfl (lv_at hl 0 rfl) ?_
      refine lv_if_eq (tgt := 34) hx hb dX12_row_25 (by decide) (fun c_11 => ?_) (fun c_11 => ?_)
      · exact absurd c_11 (by decide)
      · refine lv_aload_n hx hb dX12_row_28 rfl (lv_at hl 1 rfl) ?_
        refine lv_iload_n hx hb dX12_row_29 rfl (lv_at hl 0 rfl) ?_
        have hpd9 := pdf_N (cx := [oX12 g0 m_refused m_kind m_figure m_weight m_got m_setting (nI n) (nI sn) dn m_tape m_letter m_letterAt m_told tp mat stm m_kept him ki crs m_price m_offer m_gets m_yes m_buys m_ends m_carried m_row (nI tz) m_keptRow m_likeGets m_likePrice m_ahead, cI aC m_refused 7 mr]) hP hD hS hA [0, 2] (by decide) rfl
        have hPc := hpd9.1
        have hDc := hpd9.2.1
        have hFc := hpd9.2.2
        clear hpd9
        refine va_calli (va_runV (As := [Value.int (-6)]) (rest := []) ⟨hx, hb, hml, hown, hts⟩ (c_X12_no l dC dI aC H.size g0 m_refused m_kind m_figure m_weight m_got m_setting m_tape m_letter m_letterAt m_told m_kept m_price m_offer m_gets m_yes m_buys m_ends m_carried m_row m_keptRow m_likeGets m_likePrice m_ahead (nI n) (nI sn) dn tp mat stm him ki crs (nI tz) (-6) 6 mr (by decide) (by unfold vp_in; decide)) ⟨(callB_of 1 hts (gG kw_827) rfl rfl rfl (hts _ (gw kw_13 rfl)) (hts _ (gw kw_824 rfl)) hd_X12_no ⟨Nat.le_of_ble_eq_true rfl, Nat.le_of_ble_eq_true rfl⟩), (hts _ (gw kw_826 rfl)), (hts _ (gw ks_35 rfl))⟩ ⟨fb_std, va_recv (q := (RX12, TX12, 33)) hK hPc (ci := 12) (q0 := 0) rfl rfl, pre_std hPc hK hDc hN⟩ rfl rfl hl.1 rfl (lv_room (Nat.le_of_ble_eq_true rfl)) dX12_row_30 ⟨Nat.le_of_ble_eq_true rfl, Nat.le_of_ble_eq_true rfl⟩) hS (fun q _ h => hFc q h) hFc (fun x_12 u9 t9 H1 locs ht hvm hw_12 hB hz1 hk1 hS => ?_)
        obtain ⟨u_13, rfl⟩ : ∃ z, z = u9 := ⟨_, rfl⟩
        obtain ⟨hP1, hK1, hD1⟩ := hB
        rw [ht] at hP1
        clear hK1
        try dsimp only at hw_12
        have hpd9 : PDx (dC, dI) classes A H1 [cI aC m_row 8 tof, oX12 g0 m_refused m_kind m_figure m_weight m_got m_setting (nI n) (nI sn) dn m_tape m_letter m_letterAt m_told tp mat stm m_kept him ki crs m_price m_offer m_gets m_yes m_buys m_ends m_carried m_row (nI tz) m_keptRow m_likeGets m_likePrice m_ahead, cI aC m_refused 7 u_13] := jn_N (wr := [cI aC m_row 8 tof]) hFc hk1 hP1 hD1 hP hD [0, 2] [1] rfl rfl (by decide) (by decide)
        have hP := hpd9.1
        have hD := hpd9.2
        clear hpd9
        generalize H1 = H at hP hS ⊢
        clear hPc hDc hFc hz1 hk1 hP1 hD1 ht hvm
        obtain ⟨hv9, -⟩ := hw_12
        have hpd9 := pd_N (cx := [oX12 g0 m_refused m_kind m_figure m_weight m_got m_setting (nI n) (nI sn) dn m_tape m_letter m_letterAt m_told tp mat stm m_kept him ki crs m_price m_offer m_gets m_yes m_buys m_ends m_carried m_row (nI tz) m_keptRow m_likeGets m_likePrice m_ahead, cI aC m_row 8 tof, cI aC m_refused 7 u_13]) hP hD [1, 0, 2] (by decide) rfl
        have hP9 := hpd9.1
        have hD9 := hpd9.2
        refine W.widen (k := 0) (n := 0) (by omega) (by omega) ?_
        exact W.iret (v := x_12) hx hb hr (fun t ht hW => ⟨⟨x_12, ((nI tz), tof, u_13), rfl, ⟨by rw [hv9]; unfold rowR; rw [if_neg (bnd_0 hz_4 c_2).1, if_neg (fun q => by have := (nI_eq (b := 8) (by omega) (by omega)).mp c_6; have := q.2; omega)], by unfold rowZ; rw [if_neg (fun q => by have := (nI_eq (b := 8) (by omega) (by omega)).mp c_6; have := q.2; omega)], ROW_n hrw (fun q => by have := (nI_eq (b := 8) (by omega) (by omega)).mp c_6; have := q.2; omega)⟩, by rw [ht]; exact hP9, va_K.moved hW.alike hK, hD9⟩, hS.F ht⟩) hS.2.2 dX12_row_33

set_option maxHeartbeats 1000000 in
set_option maxRecDepth 100000 in
/-- X12_clear -/
theorem c_X12_clear (l : Launch) (dC : Nat → ClassId) (dI : Nat → Nat → Nat) (aC : Nat → ClassId) (sz : Nat) (g0 : Nat) (m_refused : Nat) (m_kind : Nat) (m_figure : Nat) (m_weight : Nat) (m_got : Nat) (m_setting : Nat) (m_tape : Nat) (m_letter : Nat) (m_letterAt : Nat) (m_told : Nat) (m_kept : Nat) (m_price : Nat) (m_offer : Nat) (m_gets : Nat) (m_yes : Nat) (m_buys : Nat) (m_ends : Nat) (m_carried : Nat) (m_row : Nat) (m_keptRow : Nat) (m_likeGets : Nat) (m_likePrice : Nat) (m_ahead : Nat) (tp : Int32) (mat : Int32) (stm : Int32) (him : Int32) (ki : Int32) (crs : Int32) (n : Nat) (sn : Nat) (dn : Int32) (tz : Nat) (T : Nat → Nat) (tof : Nat → Int32)  : Met l yX12_clear (wW yX12_clear cX12_clear 2 (some .int)) ({ frames := 0, cells := 0, slots := 0, locals := 0 } : Room) (va_Pc [Value.ref g0] (fun U => U.heap.size = sz ∧ va_P (dC, dI) classes [oX12 g0 m_refused m_kind m_figure m_weight m_got m_setting (nI n) (nI sn) dn m_tape m_letter m_letterAt m_told tp mat stm m_kept him ki crs m_price m_offer m_gets m_yes m_buys m_ends m_carried m_row (nI tz) m_keptRow m_likeGets m_likePrice m_ahead] U.heap ∧ va_K (dC, dI) classes (TY aC) U ∧ va_D (fun _ => True) [oX12 g0 m_refused m_kind m_figure m_weight m_got m_setting (nI n) (nI sn) dn m_tape m_letter m_letterAt m_told tp mat stm m_kept him ki crs m_price m_offer m_gets m_yes m_buys m_ends m_carried m_row (nI tz) m_keptRow m_likeGets m_likePrice m_ahead] ∧ NX U)) (va_Qi (fun (r : Int32) (_ : Unit) => r = nI tz) (fun (_ : Unit) (t : State) => va_P (dC, dI) classes [oX12 g0 m_refused m_kind m_figure m_weight m_got m_setting (nI n) (nI sn) dn m_tape m_letter m_letterAt m_told tp mat stm m_kept him ki crs m_price m_offer m_gets m_yes m_buys m_ends m_carried m_row 0 m_keptRow m_likeGets m_likePrice m_ahead] t.heap ∧ va_K (dC, dI) classes (TY aC) t ∧ va_D (va_A [oX12 g0 m_refused m_kind m_figure m_weight m_got m_setting (nI n) (nI sn) dn m_tape m_letter m_letterAt m_told tp mat stm m_kept him ki crs m_price m_offer m_gets m_yes m_buys m_ends m_carried m_row (nI tz) m_keptRow m_likeGets m_likePrice m_ahead] sz) [oX12 g0 m_refused m_kind m_figure m_weight m_got m_setting (nI n) (nI sn) dn m_tape m_letter m_letterAt m_told tp mat stm m_kept him ki crs m_price m_offer m_gets m_yes m_buys m_ends m_carried m_row 0 m_keptRow m_likeGets m_likePrice m_ahead]) (va_A [oX12 g0 m_refused m_kind m_figure m_weight m_got m_setting (nI n) (nI sn) dn m_tape m_letter m_letterAt m_told tp mat stm m_kept him ki crs m_price m_offer m_gets m_yes m_buys m_ends m_carried m_row (nI tz) m_keptRow m_likeGets m_likePrice m_ahead] sz)) 0 0 (va_A [oX12 g0 m_refused m_kind m_figure m_weight m_got m_setting (nI n) (nI sn) dn m_tape m_letter m_letterAt m_told tp mat stm m_kept him ki crs m_price m_offer m_gets m_yes m_buys m_ends m_carried m_row (nI tz) m_keptRow m_likeGets m_likePrice m_ahead] sz) := by
  refine Met.ofW (cc := cX12_clear) (maxL := 2) (ret := (some .int)) (by decide) rfl ?_
  intro p e s m args below meth c s₁ B hml hv
  obtain ⟨rfl, hsz, hP, hK, hD0, hN⟩ := hv
  have hx := B.exec
  have hb := B.bytes
  have hr := B.returns
  have hts0 := atoms_spec (ws := (wW yX12_clear cX12_clear 2 (some .int))) B.pre
  have hts : ∀ w9 ∈ lw_G, w9.before ([Value.ref g0] : List Value).toArray s = true := fun w9 h9 => hts0 w9 (List.mem_cons_of_mem _ h9)
  have hown : s.vm.findClass RX12 = some m.cls := findClass_of_methodNamed (x := yX12_clear) B.named
  have hlocks := B.notSynchronized
  subst hsz
  have hD := hD0.self (sz := s.heap.size)
  generalize hAe : va_A [oX12 g0 m_refused m_kind m_figure m_weight m_got m_setting (nI n) (nI sn) dn m_tape m_letter m_letterAt m_told tp mat stm m_kept him ki crs m_price m_offer m_gets m_yes m_buys m_ends m_carried m_row (nI tz) m_keptRow m_likeGets m_likePrice m_ahead] s.heap.size = A at hD ⊢
  have hA : ∀ q : Nat, s.heap.size ≤ q → A q := fun q h => by rw [← hAe]; exact Or.inr h
  obtain ⟨H, hHe⟩ : ∃ H : Heap, H = s.heap := ⟨_, rfl⟩
  have hS : va_S A s.heap H [] := by rw [hHe]; exact va_S.rf
  have hP : va_P (dC, dI) classes [oX12 g0 m_refused m_kind m_figure m_weight m_got m_setting (nI n) (nI sn) dn m_tape m_letter m_letterAt m_told tp mat stm m_kept him ki crs m_price m_offer m_gets m_yes m_buys m_ends m_carried m_row (nI tz) m_keptRow m_likeGets m_likePrice m_ahead] H := by rw [hHe]; exact hP
  have hl := lv_entry ([Value.ref g0]) (n := 2) (Nat.le_of_ble_eq_true rfl)
  rw [lg_entry_eq]
  generalize (lg_sl ([Value.ref g0]) ++ List.replicate (2 - (lg_sl ([Value.ref g0])).length) Slot.unset).toArray = ls at hl ⊢
  have hl : lv_has ls 2 [(0, Value.ref g0)] := hl
  rw [← hHe]
  refine lv_aload_n hx hb dX12_clear_0 rfl (lv_at hl 0 rfl) ?_
  refine va_get (D := (dC, dI)) (ci := 12) (v := Value.int (nI tz)) (C := RX12) (T := TX12) (N := 33) hx hb hts inX12 hown hK hP 0 rfl rfl 28 (by decide) (hts _ (gw kw_745 rfl)) (fun _ h9 => h9) rfl dX12_clear_1 ?_
  refine lv_istore_n (lv' := [(1, Value.int (nI tz)), (0, Value.ref g0)]) hx hb dX12_clear_4 rfl hl (by decide) rfl (fun ls hl => ?_)
  refine lv_aload_n hx hb dX12_clear_5 rfl (lv_at hl 1 rfl) ?_
  refine lv_iconst (v := 0) hx hb dX12_clear_6 (by decide) ?_
  refine va_put (D := (dC, dI)) (ci := 12) (v := Value.int 0) (ty := .int) (C := RX12) (T := TX12) (N := 33) hx hb hts inX12 tyX12 tyX12_ok nmX12 hown hK hP hD hS 0 rfl rfl 28 (by decide) (hts _ (gw kw_745 rfl)) (fun _ h9 => h9) rfl (by decide +kernel) rfl rfl (Nat.le_of_ble_eq_true rfl) dX12_clear_7 (fun H locs hP hD hS => ?_)
  have hpd9 : PDx (dC, dI) classes A H [oX12 g0 m_refused m_kind m_figure m_weight m_got m_setting (nI n) (nI sn) dn m_tape m_letter m_letterAt m_told tp mat stm m_kept him ki crs m_price m_offer m_gets m_yes m_buys m_ends m_carried m_row 0 m_keptRow m_likeGets m_likePrice m_ahead] := ⟨hP, hD⟩
  have hP := hpd9.1
  have hD := hpd9.2
  clear hpd9
  refine lv_iload_n hx hb dX12_clear_10 rfl (lv_at hl 0 rfl) ?_
  have hpd9 := pd_N (cx := [oX12 g0 m_refused m_kind m_figure m_weight m_got m_setting (nI n) (nI sn) dn m_tape m_letter m_letterAt m_told tp mat stm m_kept him ki crs m_price m_offer m_gets m_yes m_buys m_ends m_carried m_row 0 m_keptRow m_likeGets m_likePrice m_ahead]) hP hD [0] (by decide) rfl
  have hP9 := hpd9.1
  have hD9 := hpd9.2
  refine W.widen (k := 0) (n := 0) (by omega) (by omega) ?_
  exact W.iret (v := nI tz) hx hb hr (fun t ht hW => ⟨⟨(nI tz), (), rfl, rfl, by rw [ht]; exact hP9, va_K.moved hW.alike hK, hD9⟩, hS.F ht⟩) hS.2.2 dX12_clear_11

set_option maxHeartbeats 1000000 in
set_option maxRecDepth 100000 in
/-- X12_got -/
theorem c_X12_got (l : Launch) (dC : Nat → ClassId) (dI : Nat → Nat → Nat) (aC : Nat → ClassId) (sz : Nat) (g0 : Nat) (m_refused : Nat) (m_kind : Nat) (m_figure : Nat) (m_weight : Nat) (m_got : Nat) (m_setting : Nat) (m_tape : Nat) (m_letter : Nat) (m_letterAt : Nat) (m_told : Nat) (m_kept : Nat) (m_price : Nat) (m_offer : Nat) (m_gets : Nat) (m_yes : Nat) (m_buys : Nat) (m_ends : Nat) (m_carried : Nat) (m_row : Nat) (m_keptRow : Nat) (m_likeGets : Nat) (m_likePrice : Nat) (m_ahead : Nat) (tp : Int32) (mat : Int32) (stm : Int32) (him : Int32) (ki : Int32) (crs : Int32) (rm : Int32) (n : Nat) (sn : Nat) (dn : Int32) (mr : Nat → Int32) (pf : Nat → Int32) (i : Int32) (hn8 : n ≤ 8) : Met l yX12_got (wW yX12_got cX12_got 2 (some .int)) ({ frames := 1, cells := 0, slots := 0, locals := 21 } : Room) (va_Pc [Value.ref g0, Value.int i] (fun U => U.heap.size = sz ∧ va_P (dC, dI) classes [oX12 g0 m_refused m_kind m_figure m_weight m_got m_setting (nI n) (nI sn) dn m_tape m_letter m_letterAt m_told tp mat stm m_kept him ki crs m_price m_offer m_gets m_yes m_buys m_ends m_carried m_row rm m_keptRow m_likeGets m_likePrice m_ahead, cI aC m_got 8 pf, cI aC m_refused 7 mr] U.heap ∧ va_K (dC, dI) classes (TY aC) U ∧ va_D (fun _ => True) [oX12 g0 m_refused m_kind m_figure m_weight m_got m_setting (nI n) (nI sn) dn m_tape m_letter m_letterAt m_told tp mat stm m_kept him ki crs m_price m_offer m_gets m_yes m_buys m_ends m_carried m_row rm m_keptRow m_likeGets m_likePrice m_ahead, cI aC m_got 8 pf, cI aC m_refused 7 mr] ∧ NX U)) (va_Qi (fun (r : Int32) (mr2 : Nat → Int32) => r = rGot n pf i) (fun (mr2 : Nat → Int32) (t : State) => va_P (dC, dI) classes [oX12 g0 m_refused m_kind m_figure m_weight m_got m_setting (nI n) (nI sn) dn m_tape m_letter m_letterAt m_told tp mat stm m_kept him ki crs m_price m_offer m_gets m_yes m_buys m_ends m_carried m_row rm m_keptRow m_likeGets m_likePrice m_ahead, cI aC m_got 8 pf, cI aC m_refused 7 mr2] t.heap ∧ va_K (dC, dI) classes (TY aC) t ∧ va_D (va_A [oX12 g0 m_refused m_kind m_figure m_weight m_got m_setting (nI n) (nI sn) dn m_tape m_letter m_letterAt m_told tp mat stm m_kept him ki crs m_price m_offer m_gets m_yes m_buys m_ends m_carried m_row rm m_keptRow m_likeGets m_likePrice m_ahead, cI aC m_got 8 pf, cI aC m_refused 7 mr] sz) [oX12 g0 m_refused m_kind m_figure m_weight m_got m_setting (nI n) (nI sn) dn m_tape m_letter m_letterAt m_told tp mat stm m_kept him ki crs m_price m_offer m_gets m_yes m_buys m_ends m_carried m_row rm m_keptRow m_likeGets m_likePrice m_ahead, cI aC m_got 8 pf, cI aC m_refused 7 mr2]) (va_A [oX12 g0 m_refused m_kind m_figure m_weight m_got m_setting (nI n) (nI sn) dn m_tape m_letter m_letterAt m_told tp mat stm m_kept him ki crs m_price m_offer m_gets m_yes m_buys m_ends m_carried m_row rm m_keptRow m_likeGets m_likePrice m_ahead, cI aC m_got 8 pf, cI aC m_refused 7 mr] sz)) 0 0 (va_A [oX12 g0 m_refused m_kind m_figure m_weight m_got m_setting (nI n) (nI sn) dn m_tape m_letter m_letterAt m_told tp mat stm m_kept him ki crs m_price m_offer m_gets m_yes m_buys m_ends m_carried m_row rm m_keptRow m_likeGets m_likePrice m_ahead, cI aC m_got 8 pf, cI aC m_refused 7 mr] sz) := by
  refine Met.ofW (cc := cX12_got) (maxL := 2) (ret := (some .int)) (by decide) rfl ?_
  intro p e s m args below meth c s₁ B hml hv
  obtain ⟨rfl, hsz, hP, hK, hD0, hN⟩ := hv
  have hx := B.exec
  have hb := B.bytes
  have hr := B.returns
  have hts0 := atoms_spec (ws := (wW yX12_got cX12_got 2 (some .int))) B.pre
  have hts : ∀ w9 ∈ lw_G, w9.before ([Value.ref g0, Value.int i] : List Value).toArray s = true := fun w9 h9 => hts0 w9 (List.mem_cons_of_mem _ h9)
  have hown : s.vm.findClass RX12 = some m.cls := findClass_of_methodNamed (x := yX12_got) B.named
  have hlocks := B.notSynchronized
  subst hsz
  have hD := hD0.self (sz := s.heap.size)
  generalize hAe : va_A [oX12 g0 m_refused m_kind m_figure m_weight m_got m_setting (nI n) (nI sn) dn m_tape m_letter m_letterAt m_told tp mat stm m_kept him ki crs m_price m_offer m_gets m_yes m_buys m_ends m_carried m_row rm m_keptRow m_likeGets m_likePrice m_ahead, cI aC m_got 8 pf, cI aC m_refused 7 mr] s.heap.size = A at hD ⊢
  have hA : ∀ q : Nat, s.heap.size ≤ q → A q := fun q h => by rw [← hAe]; exact Or.inr h
  obtain ⟨H, hHe⟩ : ∃ H : Heap, H = s.heap := ⟨_, rfl⟩
  have hS : va_S A s.heap H [] := by rw [hHe]; exact va_S.rf
  have hP : va_P (dC, dI) classes [oX12 g0 m_refused m_kind m_figure m_weight m_got m_setting (nI n) (nI sn) dn m_tape m_letter m_letterAt m_told tp mat stm m_kept him ki crs m_price m_offer m_gets m_yes m_buys m_ends m_carried m_row rm m_keptRow m_likeGets m_likePrice m_ahead, cI aC m_got 8 pf, cI aC m_refused 7 mr] H := by rw [hHe]; exact hP
  have hl := lv_entry ([Value.ref g0, Value.int i]) (n := 2) (Nat.le_of_ble_eq_true rfl)
  rw [lg_entry_eq]
  generalize (lg_sl ([Value.ref g0, Value.int i]) ++ List.replicate (2 - (lg_sl ([Value.ref g0, Value.int i])).length) Slot.unset).toArray = ls at hl ⊢
  have hl : lv_has ls 2 [(0, Value.ref g0), (1, Value.int i)] := hl
  rw [← hHe]
  refine lv_aload_n hx hb dX12_got_0 rfl (lv_at hl 0 rfl) ?_
  refine lv_iload_n hx hb dX12_got_1 rfl (lv_at hl 1 rfl) ?_
  have hpd9 := pdf_N (cx := [oX12 g0 m_refused m_kind m_figure m_weight m_got m_setting (nI n) (nI sn) dn m_tape m_letter m_letterAt m_told tp mat stm m_kept him ki crs m_price m_offer m_gets m_yes m_buys m_ends m_carried m_row rm m_keptRow m_likeGets m_likePrice m_ahead]) hP hD hS hA [0] (by decide) rfl
  have hPc := hpd9.1
  have hDc := hpd9.2.1
  have hFc := hpd9.2.2
  clear hpd9
  refine va_calli (va_runV (As := [Value.int i]) (rest := []) ⟨hx, hb, hml, hown, hts⟩ (c_X12_isMan l dC dI aC H.size g0 m_refused m_kind m_figure m_weight m_got m_setting m_tape m_letter m_letterAt m_told m_kept m_price m_offer m_gets m_yes m_buys m_ends m_carried m_row m_keptRow m_likeGets m_likePrice m_ahead (nI n) (nI sn) dn tp mat stm him ki crs rm i ) ⟨(callB_of 1 hts (gG kw_878) rfl rfl rfl (hts _ (gw kw_13 rfl)) (hts _ (gw kw_875 rfl)) hd_X12_isMan ⟨Nat.le_of_ble_eq_true rfl, Nat.le_of_ble_eq_true rfl⟩), (hts _ (gw kw_877 rfl)), (hts _ (gw ks_43 rfl))⟩ ⟨fb_std, va_recv (q := (RX12, TX12, 33)) hK hPc (ci := 12) (q0 := 0) rfl rfl, pre_std hPc hK hDc hN⟩ rfl rfl hl.1 rfl (lv_room (Nat.le_of_ble_eq_true rfl)) dX12_got_2 ⟨Nat.le_of_ble_eq_true rfl, Nat.le_of_ble_eq_true rfl⟩) hS (fun q _ h => hFc q h) hFc (fun x_1 u9 t9 H1 locs ht hvm hw_1 hB hz1 hk1 hS => ?_)
  obtain ⟨hP1, hK1, hD1⟩ := hB
  rw [ht] at hP1
  clear hK1
  try dsimp only at hw_1
  have hpd9 : PDx (dC, dI) classes A H1 [cI aC m_got 8 pf, cI aC m_refused 7 mr, oX12 g0 m_refused m_kind m_figure m_weight m_got m_setting (nI n) (nI sn) dn m_tape m_letter m_letterAt m_told tp mat stm m_kept him ki crs m_price m_offer m_gets m_yes m_buys m_ends m_carried m_row rm m_keptRow m_likeGets m_likePrice m_ahead] := jn_N (wr := [cI aC m_got 8 pf, cI aC m_refused 7 mr]) hFc hk1 hP1 hD1 hP hD [0] [1, 2] rfl rfl (by decide) (by decide)
  have hP := hpd9.1
  have hD := hpd9.2
  clear hpd9
  generalize H1 = H at hP hS ⊢
  clear hPc hDc hFc hz1 hk1 hP1 hD1 ht hvm
  have hz_2 := hw_1
  refine lv_if_eq (tgt := 17) hx hb dX12_got_5 (by decide) (fun c_2 => ?_) (fun c_2 => ?_)
  · refine lv_aload_n hx hb dX12_got_17 rfl (lv_at hl 0 rfl) ?_
    refine lv_iconst (v := -1) hx hb dX12_got_18 (by decide) ?_
    have hpd9 := pdf_N (cx := [oX12 g0 m_refused m_kind m_figure m_weight m_got m_setting (nI n) (nI sn) dn m_tape m_letter m_letterAt m_told tp mat stm m_kept him ki crs m_price m_offer m_gets m_yes m_buys m_ends m_carried m_row rm m_keptRow m_likeGets m_likePrice m_ahead, cI aC m_refused 7 mr]) hP hD hS hA [2, 1] (by decide) rfl
    have hPc := hpd9.1
    have hDc := hpd9.2.1
    have hFc := hpd9.2.2
    clear hpd9
    refine va_calli (va_runV (As := [Value.int (-1)]) (rest := []) ⟨hx, hb, hml, hown, hts⟩ (c_X12_lower l dC dI aC H.size g0 m_refused m_kind m_figure m_weight m_got m_setting m_tape m_letter m_letterAt m_told m_kept m_price m_offer m_gets m_yes m_buys m_ends m_carried m_row m_keptRow m_likeGets m_likePrice m_ahead (nI n) (nI sn) dn tp mat stm him ki crs rm (-1) 1 mr (by decide) (by unfold vp_in; decide)) ⟨(callB_of 1 hts (gG kw_973) rfl rfl rfl (hts _ (gw kw_13 rfl)) (hts _ (gw kw_970 rfl)) hd_X12_lower ⟨Nat.le_of_ble_eq_true rfl, Nat.le_of_ble_eq_true rfl⟩), (hts _ (gw kw_972 rfl)), (hts _ (gw ks_57 rfl))⟩ ⟨fb_std, va_recv (q := (RX12, TX12, 33)) hK hPc (ci := 12) (q0 := 0) rfl rfl, pre_std hPc hK hDc hN⟩ rfl rfl hl.1 rfl (lv_room (Nat.le_of_ble_eq_true rfl)) dX12_got_19 ⟨Nat.le_of_ble_eq_true rfl, Nat.le_of_ble_eq_true rfl⟩) hS (fun q _ h => hFc q h) hFc (fun x_3 u9 t9 H1 locs ht hvm hw_3 hB hz1 hk1 hS => ?_)
    obtain ⟨u_4, rfl⟩ : ∃ z, z = u9 := ⟨_, rfl⟩
    obtain ⟨hP1, hK1, hD1⟩ := hB
    rw [ht] at hP1
    clear hK1
    try dsimp only at hw_3
    have hpd9 : PDx (dC, dI) classes A H1 [cI aC m_got 8 pf, oX12 g0 m_refused m_kind m_figure m_weight m_got m_setting (nI n) (nI sn) dn m_tape m_letter m_letterAt m_told tp mat stm m_kept him ki crs m_price m_offer m_gets m_yes m_buys m_ends m_carried m_row rm m_keptRow m_likeGets m_likePrice m_ahead, cI aC m_refused 7 u_4] := jn_N (wr := [cI aC m_got 8 pf]) hFc hk1 hP1 hD1 hP hD [2, 1] [0] rfl rfl (by decide) (by decide)
    have hP := hpd9.1
    have hD := hpd9.2
    clear hpd9
    generalize H1 = H at hP hS ⊢
    clear hPc hDc hFc hz1 hk1 hP1 hD1 ht hvm
    obtain ⟨hv9, -⟩ := hw_3
    have hpd9 := pd_N (cx := [oX12 g0 m_refused m_kind m_figure m_weight m_got m_setting (nI n) (nI sn) dn m_tape m_letter m_letterAt m_told tp mat stm m_kept him ki crs m_price m_offer m_gets m_yes m_buys m_ends m_carried m_row rm m_keptRow m_likeGets m_likePrice m_ahead, cI aC m_got 8 pf, cI aC m_refused 7 u_4]) hP hD [1, 0, 2] (by decide) rfl
    have hP9 := hpd9.1
    have hD9 := hpd9.2
    refine W.widen (k := 0) (n := 0) (by omega) (by omega) ?_
    exact W.iret (v := x_3) hx hb hr (fun t ht hW => ⟨⟨x_3, (u_4), rfl, by rw [hv9]; unfold rGot; rw [if_neg (has_n hz_2 c_2)]; rfl, by rw [ht]; exact hP9, va_K.moved hW.alike hK, hD9⟩, hS.F ht⟩) hS.2.2 dX12_got_22
  · obtain ⟨a, ha8, ha9⟩ := OKI_ix hn8 (has_y hz_2 c_2)
    have h9 : i = nI a := ha9
    subst h9
    refine lv_aload_n hx hb dX12_got_8 rfl (lv_at hl 0 rfl) ?_
    refine va_get (D := (dC, dI)) (ci := 12) (v := Value.ref m_got) (C := RX12) (T := TX12) (N := 33) hx hb hts inX12 hown hK hP 2 rfl rfl 4 (by decide) (hts _ (gw kw_721 rfl)) (fun _ h9 => h9) rfl dX12_got_9 ?_
    refine lv_iload_n hx hb dX12_got_12 rfl (lv_at hl 1 rfl) ?_
    have h_5 : vp_in (nI a) 8 := by first | exact vp_in_nI (by omega) (by omega) | (unfold vp_in; decide) | (subst_vars; first | (unfold vp_in; decide) | exact vp_in_nI (by omega) (by omega))
    refine va_iald hx hb hK hP 0 0 rfl rfl h_5 dX12_got_13 ?_
    refine lv_topi (fun x_6 e_6 => ?_)
    refine lv_goto (tgt := 22) hx hb dX12_got_14 (by decide) ?_
    have hpd9 := pd_N (cx := [oX12 g0 m_refused m_kind m_figure m_weight m_got m_setting (nI n) (nI sn) dn m_tape m_letter m_letterAt m_told tp mat stm m_kept him ki crs m_price m_offer m_gets m_yes m_buys m_ends m_carried m_row rm m_keptRow m_likeGets m_likePrice m_ahead, cI aC m_got 8 pf, cI aC m_refused 7 mr]) hP hD [2, 0, 1] (by decide) rfl
    have hP9 := hpd9.1
    have hD9 := hpd9.2
    refine W.widen (k := 0) (n := 0) (by omega) (by omega) ?_
    exact W.iret (v := x_6) hx hb hr (fun t ht hW => ⟨⟨x_6, (mr), rfl, by rw [e_6, nI_clamp (by omega)]; unfold rGot; rw [if_pos (OKI_nI hn8 ha8), nI_clamp (by omega)], by rw [ht]; exact hP9, va_K.moved hW.alike hK, hD9⟩, hS.F ht⟩) hS.2.2 dX12_got_22

set_option maxHeartbeats 1000000 in
set_option maxRecDepth 100000 in
/-- X12_isOffer -/
theorem c_X12_isOffer (l : Launch) (dC : Nat → ClassId) (dI : Nat → Nat → Nat) (aC : Nat → ClassId) (sz : Nat) (g0 : Nat) (m_refused : Nat) (m_kind : Nat) (m_figure : Nat) (m_weight : Nat) (m_got : Nat) (m_setting : Nat) (m_tape : Nat) (m_letter : Nat) (m_letterAt : Nat) (m_told : Nat) (m_kept : Nat) (m_price : Nat) (m_offer : Nat) (m_gets : Nat) (m_yes : Nat) (m_buys : Nat) (m_ends : Nat) (m_carried : Nat) (m_row : Nat) (m_keptRow : Nat) (m_likeGets : Nat) (m_likePrice : Nat) (m_ahead : Nat) (tp : Int32) (mat : Int32) (stm : Int32) (him : Int32) (ki : Int32) (crs : Int32) (n : Nat) (sn : Nat) (dn : Int32) (tz : Nat) (T : Nat → Nat) (tof : Nat → Int32) (kf : Nat → Int32) (ff : Nat → Int32) (wf : Nat → Int32) (stf : Nat → Int32) (K : Nat → Nat) (F : Nat → Nat) (W0 : Nat → Nat) (S5 : Nat → Nat) (hev : EVS n sn dn K F W0 S5 kf ff wf stf) (hrw : ROW tz T tof) : Met l yX12_isOffer (wW yX12_isOffer cX12_isOffer 3 (some .boolean)) ({ frames := 0, cells := 0, slots := 0, locals := 0 } : Room) (va_Pc [Value.ref g0] (fun U => U.heap.size = sz ∧ va_P (dC, dI) classes [oX12 g0 m_refused m_kind m_figure m_weight m_got m_setting (nI n) (nI sn) dn m_tape m_letter m_letterAt m_told tp mat stm m_kept him ki crs m_price m_offer m_gets m_yes m_buys m_ends m_carried m_row (nI tz) m_keptRow m_likeGets m_likePrice m_ahead, cI aC m_setting 5 stf, cI aC m_row 8 tof] U.heap ∧ va_K (dC, dI) classes (TY aC) U ∧ va_D (fun _ => True) [oX12 g0 m_refused m_kind m_figure m_weight m_got m_setting (nI n) (nI sn) dn m_tape m_letter m_letterAt m_told tp mat stm m_kept him ki crs m_price m_offer m_gets m_yes m_buys m_ends m_carried m_row (nI tz) m_keptRow m_likeGets m_likePrice m_ahead, cI aC m_setting 5 stf, cI aC m_row 8 tof] ∧ NX U)) (va_Qi (fun (r : Int32) (_ : Unit) => r = if RGT n sn S5 tz T then 1 else 0) (fun (_ : Unit) (t : State) => va_P (dC, dI) classes [oX12 g0 m_refused m_kind m_figure m_weight m_got m_setting (nI n) (nI sn) dn m_tape m_letter m_letterAt m_told tp mat stm m_kept him ki crs m_price m_offer m_gets m_yes m_buys m_ends m_carried m_row (nI tz) m_keptRow m_likeGets m_likePrice m_ahead, cI aC m_setting 5 stf, cI aC m_row 8 tof] t.heap ∧ va_K (dC, dI) classes (TY aC) t ∧ va_D (va_A [oX12 g0 m_refused m_kind m_figure m_weight m_got m_setting (nI n) (nI sn) dn m_tape m_letter m_letterAt m_told tp mat stm m_kept him ki crs m_price m_offer m_gets m_yes m_buys m_ends m_carried m_row (nI tz) m_keptRow m_likeGets m_likePrice m_ahead, cI aC m_setting 5 stf, cI aC m_row 8 tof] sz) [oX12 g0 m_refused m_kind m_figure m_weight m_got m_setting (nI n) (nI sn) dn m_tape m_letter m_letterAt m_told tp mat stm m_kept him ki crs m_price m_offer m_gets m_yes m_buys m_ends m_carried m_row (nI tz) m_keptRow m_likeGets m_likePrice m_ahead, cI aC m_setting 5 stf, cI aC m_row 8 tof]) (va_A [oX12 g0 m_refused m_kind m_figure m_weight m_got m_setting (nI n) (nI sn) dn m_tape m_letter m_letterAt m_told tp mat stm m_kept him ki crs m_price m_offer m_gets m_yes m_buys m_ends m_carried m_row (nI tz) m_keptRow m_likeGets m_likePrice m_ahead, cI aC m_setting 5 stf, cI aC m_row 8 tof] sz)) 0 0 (va_A [oX12 g0 m_refused m_kind m_figure m_weight m_got m_setting (nI n) (nI sn) dn m_tape m_letter m_letterAt m_told tp mat stm m_kept him ki crs m_price m_offer m_gets m_yes m_buys m_ends m_carried m_row (nI tz) m_keptRow m_likeGets m_likePrice m_ahead, cI aC m_setting 5 stf, cI aC m_row 8 tof] sz) := by
  refine Met.ofW (cc := cX12_isOffer) (maxL := 3) (ret := (some .boolean)) (by decide) rfl ?_
  intro p e s m args below meth c s₁ B hml hv
  obtain ⟨rfl, hsz, hP, hK, hD0, hN⟩ := hv
  have hx := B.exec
  have hb := B.bytes
  have hr := B.returns
  have hts0 := atoms_spec (ws := (wW yX12_isOffer cX12_isOffer 3 (some .boolean))) B.pre
  have hts : ∀ w9 ∈ lw_G, w9.before ([Value.ref g0] : List Value).toArray s = true := fun w9 h9 => hts0 w9 (List.mem_cons_of_mem _ h9)
  have hown : s.vm.findClass RX12 = some m.cls := findClass_of_methodNamed (x := yX12_isOffer) B.named
  have hlocks := B.notSynchronized
  subst hsz
  have hD := hD0.self (sz := s.heap.size)
  generalize hAe : va_A [oX12 g0 m_refused m_kind m_figure m_weight m_got m_setting (nI n) (nI sn) dn m_tape m_letter m_letterAt m_told tp mat stm m_kept him ki crs m_price m_offer m_gets m_yes m_buys m_ends m_carried m_row (nI tz) m_keptRow m_likeGets m_likePrice m_ahead, cI aC m_setting 5 stf, cI aC m_row 8 tof] s.heap.size = A at hD ⊢
  have hA : ∀ q : Nat, s.heap.size ≤ q → A q := fun q h => by rw [← hAe]; exact Or.inr h
  obtain ⟨H, hHe⟩ : ∃ H : Heap, H = s.heap := ⟨_, rfl⟩
  have hS : va_S A s.heap H [] := by rw [hHe]; exact va_S.rf
  have hP : va_P (dC, dI) classes [oX12 g0 m_refused m_kind m_figure m_weight m_got m_setting (nI n) (nI sn) dn m_tape m_letter m_letterAt m_told tp mat stm m_kept him ki crs m_price m_offer m_gets m_yes m_buys m_ends m_carried m_row (nI tz) m_keptRow m_likeGets m_likePrice m_ahead, cI aC m_setting 5 stf, cI aC m_row 8 tof] H := by rw [hHe]; exact hP
  have hl := lv_entry ([Value.ref g0]) (n := 3) (Nat.le_of_ble_eq_true rfl)
  rw [lg_entry_eq]
  generalize (lg_sl ([Value.ref g0]) ++ List.replicate (3 - (lg_sl ([Value.ref g0])).length) Slot.unset).toArray = ls at hl ⊢
  have hl : lv_has ls 3 [(0, Value.ref g0)] := hl
  rw [← hHe]
  have hn8 := EVS_n hev
  have ht8 := hrw.1
  have hcq := hev.1.2.1
  refine lv_iconst (v := 0) hx hb dX12_isOffer_0 (by decide) ?_
  refine lv_istore_n (lv' := [(1, Value.int 0), (0, Value.ref g0)]) hx hb dX12_isOffer_1 rfl hl (by decide) rfl (fun ls hl => ?_)
  refine lv_iconst (v := 0) hx hb dX12_isOffer_2 (by decide) ?_
  refine lv_istore_n (lv' := [(2, Value.int 0), (1, Value.int 0), (0, Value.ref g0)]) hx hb dX12_isOffer_3 rfl hl (by decide) rfl (fun ls hl => ?_)
  have lp_4 : ∀ (fu : Nat) (j : Nat) (hfu : tz - j < fu) (hj : j ≤ tz) (H : Heap) (locs : List Loc) (ls : Array Slot), va_P (dC, dI) classes [oX12 g0 m_refused m_kind m_figure m_weight m_got m_setting (nI n) (nI sn) dn m_tape m_letter m_letterAt m_told tp mat stm m_kept him ki crs m_price m_offer m_gets m_yes m_buys m_ends m_carried m_row (nI tz) m_keptRow m_likeGets m_likePrice m_ahead, cI aC m_setting 5 stf, cI aC m_row 8 tof] H → va_D A [oX12 g0 m_refused m_kind m_figure m_weight m_got m_setting (nI n) (nI sn) dn m_tape m_letter m_letterAt m_told tp mat stm m_kept him ki crs m_price m_offer m_gets m_yes m_buys m_ends m_carried m_row (nI tz) m_keptRow m_likeGets m_likePrice m_ahead, cI aC m_setting 5 stf, cI aC m_row 8 tof] → va_S A s.heap H locs → lv_has ls 3 [(0, Value.ref g0), (1, Value.int (nI (sumr T 0 j))), (2, Value.int (nI j))] → W p l e (headSpec (wW yX12_isOffer cX12_isOffer 3 (some .boolean)) ({ frames := 0, cells := 0, slots := 0, locals := 0 } : Room)).room s m ([Value.ref g0] : List Value).toArray below meth c H locs 0 0 (MQ below (va_Qi (fun (r : Int32) (_ : Unit) => r = if RGT n sn S5 tz T then 1 else 0) (fun (_ : Unit) (t : State) => va_P (dC, dI) classes [oX12 g0 m_refused m_kind m_figure m_weight m_got m_setting (nI n) (nI sn) dn m_tape m_letter m_letterAt m_told tp mat stm m_kept him ki crs m_price m_offer m_gets m_yes m_buys m_ends m_carried m_row (nI tz) m_keptRow m_likeGets m_likePrice m_ahead, cI aC m_setting 5 stf, cI aC m_row 8 tof] t.heap ∧ va_K (dC, dI) classes (TY aC) t ∧ va_D A [oX12 g0 m_refused m_kind m_figure m_weight m_got m_setting (nI n) (nI sn) dn m_tape m_letter m_letterAt m_told tp mat stm m_kept him ki crs m_price m_offer m_gets m_yes m_buys m_ends m_carried m_row (nI tz) m_keptRow m_likeGets m_likePrice m_ahead, cI aC m_setting 5 stf, cI aC m_row 8 tof]) A) ([Value.ref g0] : List Value).toArray s 0 0 A) (F0 m 4 ls []) := by
    intro fu
    induction fu with
    | zero => intro j hfu; exact absurd hfu (Nat.not_lt_zero _)
    | succ fu ih_4 =>
      intro j hfu hj H locs ls hP hD hS hl
      refine lv_iload_n hx hb dX12_isOffer_4 rfl (lv_at hl 2 rfl) ?_
      refine lv_aload_n hx hb dX12_isOffer_5 rfl (lv_at hl 0 rfl) ?_
      refine va_get (D := (dC, dI)) (ci := 12) (v := Value.int (nI tz)) (C := RX12) (T := TX12) (N := 33) hx hb hts inX12 hown hK hP 0 rfl rfl 28 (by decide) (hts _ (gw kw_745 rfl)) (fun _ h9 => h9) rfl dX12_isOffer_6 ?_
      refine lv_icmp_ge (tgt := 27) hx hb dX12_isOffer_9 (by decide) (fun c_1 => ?_) (fun c_1 => ?_)
      · have hjn : j = tz := by
          rcases Nat.lt_or_ge j tz with q | q
          · exact absurd c_1 (nI_ge q (by omega))
          · omega
        have hsu9 := T_sum hrw hj
        refine lv_aload_n hx hb dX12_isOffer_27 rfl (lv_at hl 0 rfl) ?_
        refine va_get (D := (dC, dI)) (ci := 12) (v := Value.int (nI tz)) (C := RX12) (T := TX12) (N := 33) hx hb hts inX12 hown hK hP 0 rfl rfl 28 (by decide) (hts _ (gw kw_745 rfl)) (fun _ h9 => h9) rfl dX12_isOffer_28 ?_
        refine lv_aload_n hx hb dX12_isOffer_31 rfl (lv_at hl 0 rfl) ?_
        refine va_get (D := (dC, dI)) (ci := 12) (v := Value.int (nI n)) (C := RX12) (T := TX12) (N := 33) hx hb hts inX12 hown hK hP 0 rfl rfl 6 (by decide) (hts _ (gw kw_723 rfl)) (fun _ h9 => h9) rfl dX12_isOffer_32 ?_
        refine lv_aload_n hx hb dX12_isOffer_35 rfl (lv_at hl 0 rfl) ?_
        refine va_get (D := (dC, dI)) (ci := 12) (v := Value.int (nI sn)) (C := RX12) (T := TX12) (N := 33) hx hb hts inX12 hown hK hP 0 rfl rfl 7 (by decide) (hts _ (gw kw_724 rfl)) (fun _ h9 => h9) rfl dX12_isOffer_36 ?_
        refine lv_isub hx hb dX12_isOffer_39 ?_
        refine lv_topi (fun x_2 e_2 => ?_)
        have h9 : x_2 = (nI n - nI sn) := e_2
        subst h9
        refine lv_icmp_ne (tgt := 57) hx hb dX12_isOffer_40 (by decide) (fun c_3 => ?_) (fun c_3 => ?_)
        · refine lv_iconst (v := 0) hx hb dX12_isOffer_57 (by decide) ?_
          have hpd9 := pd_N (cx := [oX12 g0 m_refused m_kind m_figure m_weight m_got m_setting (nI n) (nI sn) dn m_tape m_letter m_letterAt m_told tp mat stm m_kept him ki crs m_price m_offer m_gets m_yes m_buys m_ends m_carried m_row (nI tz) m_keptRow m_likeGets m_likePrice m_ahead, cI aC m_setting 5 stf, cI aC m_row 8 tof]) hP hD [0, 1, 2] (by decide) rfl
          have hP9 := hpd9.1
          have hD9 := hpd9.2
          refine W.widen (k := 0) (n := 0) (by omega) (by omega) ?_
          exact W.zret (v := 0) hx hb hr rfl (fun t ht hW => ⟨⟨0, (), rfl, by rw [if_neg (rgt_n c_3 (sn_le hev))], by rw [ht]; exact hP9, va_K.moved hW.alike hK, hD9⟩, hS.F ht⟩) hS.2.2 dX12_isOffer_58
        · have htz := rgt_z c_3 (sn_le hev) hn8 ht8
          refine lv_iload_n hx hb dX12_isOffer_43 rfl (lv_at hl 1 rfl) ?_
          refine lv_aload_n hx hb dX12_isOffer_44 rfl (lv_at hl 0 rfl) ?_
          refine va_get (D := (dC, dI)) (ci := 12) (v := Value.ref m_setting) (C := RX12) (T := TX12) (N := 33) hx hb hts inX12 hown hK hP 0 rfl rfl 5 (by decide) (hts _ (gw kw_722 rfl)) (fun _ h9 => h9) rfl dX12_isOffer_45 ?_
          refine lv_iconst (v := 0) hx hb dX12_isOffer_48 (by decide) ?_
          have h_4 : vp_in 0 5 := by unfold vp_in; decide
          refine va_iald hx hb hK hP 1 0 rfl rfl h_4 dX12_isOffer_49 ?_
          refine lv_topi (fun x_5 e_5 => ?_)
          have h9 : x_5 = nI (S5 0) := by rw [e_5]; exact hev.2.1 0 (by omega)
          subst h9
          refine lv_icmp_ne (tgt := 57) hx hb dX12_isOffer_50 (by decide) (fun c_6 => ?_) (fun c_6 => ?_)
          · refine lv_iconst (v := 0) hx hb dX12_isOffer_57 (by decide) ?_
            have hpd9 := pd_N (cx := [oX12 g0 m_refused m_kind m_figure m_weight m_got m_setting (nI n) (nI sn) dn m_tape m_letter m_letterAt m_told tp mat stm m_kept him ki crs m_price m_offer m_gets m_yes m_buys m_ends m_carried m_row (nI tz) m_keptRow m_likeGets m_likePrice m_ahead, cI aC m_setting 5 stf, cI aC m_row 8 tof]) hP hD [0, 1, 2] (by decide) rfl
            have hP9 := hpd9.1
            have hD9 := hpd9.2
            refine W.widen (k := 0) (n := 0) (by omega) (by omega) ?_
            exact W.zret (v := 0) hx hb hr rfl (fun t ht hW => ⟨⟨0, (), rfl, by rw [if_neg (fun q => c_6 (by rw [hjn, ← q.2]))], by rw [ht]; exact hP9, va_K.moved hW.alike hK, hD9⟩, hS.F ht⟩) hS.2.2 dX12_isOffer_58
          · refine lv_iconst (v := 1) hx hb dX12_isOffer_53 (by decide) ?_
            refine lv_goto (tgt := 58) hx hb dX12_isOffer_54 (by decide) ?_
            have hpd9 := pd_N (cx := [oX12 g0 m_refused m_kind m_figure m_weight m_got m_setting (nI n) (nI sn) dn m_tape m_letter m_letterAt m_told tp mat stm m_kept him ki crs m_price m_offer m_gets m_yes m_buys m_ends m_carried m_row (nI tz) m_keptRow m_likeGets m_likePrice m_ahead, cI aC m_setting 5 stf, cI aC m_row 8 tof]) hP hD [0, 1, 2] (by decide) rfl
            have hP9 := hpd9.1
            have hD9 := hpd9.2
            refine W.widen (k := 0) (n := 0) (by omega) (by omega) ?_
            exact W.zret (v := 1) hx hb hr rfl (fun t ht hW => ⟨⟨1, (), rfl, by rw [if_pos ⟨htz, by rw [← hjn]; exact (nI_eq (by omega) (by omega)).mp c_6⟩], by rw [ht]; exact hP9, va_K.moved hW.alike hK, hD9⟩, hS.F ht⟩) hS.2.2 dX12_isOffer_58
      · have hlt : j < tz := by
          rcases Nat.lt_or_ge j tz with q | q
          · exact q
          · exact absurd (nI_le q (by omega)) c_1
        refine lv_iload_n hx hb dX12_isOffer_12 rfl (lv_at hl 1 rfl) ?_
        refine lv_aload_n hx hb dX12_isOffer_13 rfl (lv_at hl 0 rfl) ?_
        refine va_get (D := (dC, dI)) (ci := 12) (v := Value.ref m_row) (C := RX12) (T := TX12) (N := 33) hx hb hts inX12 hown hK hP 0 rfl rfl 27 (by decide) (hts _ (gw kw_744 rfl)) (fun _ h9 => h9) rfl dX12_isOffer_14 ?_
        refine lv_iload_n hx hb dX12_isOffer_17 rfl (lv_at hl 2 rfl) ?_
        have h_7 : vp_in (nI j) 8 := by first | exact vp_in_nI (by omega) (by omega) | (unfold vp_in; decide) | (subst_vars; first | (unfold vp_in; decide) | exact vp_in_nI (by omega) (by omega))
        refine va_iald hx hb hK hP 2 0 rfl rfl h_7 dX12_isOffer_18 ?_
        refine lv_topi (fun x_8 e_8 => ?_)
        have h9 : x_8 = nI (T j) := by rw [e_8, nI_clamp (by omega)]; exact (hrw.2 j hlt).1
        subst h9
        refine lv_iadd hx hb dX12_isOffer_19 ?_
        refine lv_topi (fun x_9 e_9 => ?_)
        have h9 : x_9 = nI (sumr T 0 (j + 1)) := by rw [e_9, nI_add, sumr_s0]
        subst h9
        refine lv_istore_n (lv' := [(1, Value.int (nI (sumr T 0 (j + 1)))), (0, Value.ref g0), (2, Value.int (nI j))]) hx hb dX12_isOffer_20 rfl hl (by decide) rfl (fun ls hl => ?_)
        obtain ⟨x_10, e_10⟩ : ∃ y : Int32, y = (nI j) + 1 := ⟨_, rfl⟩
        refine lv_iinc (v := x_10) (lv' := [(2, Value.int x_10), (1, Value.int (nI (sumr T 0 (j + 1)))), (0, Value.ref g0)]) hx hb dX12_isOffer_21 hl (k := 2) rfl (by rw [e_10]; rfl) (by decide) rfl (fun ls hl => ?_)
        have h9 : x_10 = nI (j + 1) := by rw [e_10, nI_1]
        subst h9
        refine lv_goto (tgt := 4) hx hb dX12_isOffer_24 (by decide) ?_
        exact ih_4 (j + 1) (ms_lt hlt hfu) (by omega) _ _ _ (hP.sub [0, 1, 2] rfl) (hD.sub [0, 1, 2] (by decide) rfl) hS (lv_sub hl [2, 1, 0] rfl)
  exact lp_4 ((tz - 0) + 1) 0 (Nat.lt_succ_self _) (Nat.zero_le _) _ _ _ (hP.sub [0, 1, 2] rfl) (hD.sub [0, 1, 2] (by decide) rfl) hS (lv_sub hl [2, 1, 0] rfl)

set_option maxHeartbeats 1000000 in
set_option maxRecDepth 100000 in
/-- X12_judge -/
theorem c_X12_judge (l : Launch) (dC : Nat → ClassId) (dI : Nat → Nat → Nat) (aC : Nat → ClassId) (sz : Nat) (g0 : Nat) (m_refused : Nat) (m_kind : Nat) (m_figure : Nat) (m_weight : Nat) (m_got : Nat) (m_setting : Nat) (m_tape : Nat) (m_letter : Nat) (m_letterAt : Nat) (m_told : Nat) (m_kept : Nat) (m_price : Nat) (m_offer : Nat) (m_gets : Nat) (m_yes : Nat) (m_buys : Nat) (m_ends : Nat) (m_carried : Nat) (m_row : Nat) (m_keptRow : Nat) (m_likeGets : Nat) (m_likePrice : Nat) (m_ahead : Nat) (tp : Int32) (mat : Int32) (stm : Int32) (him : Int32) (ki : Int32) (crs : Int32) (n : Nat) (sn : Nat) (dn : Int32) (kf : Nat → Int32) (ff : Nat → Int32) (wf : Nat → Int32) (stf : Nat → Int32) (pf : Nat → Int32) (of : Nat → Int32) (gf : Nat → Int32) (yf : Nat → Int32) (bf : Nat → Int32) (ef : Nat → Int32) (cf : Nat → Int32) (K : Nat → Nat) (F : Nat → Nat) (W0 : Nat → Nat) (S5 : Nat → Nat) (mr : Nat → Int32) (tz : Nat) (T : Nat → Nat) (tof : Nat → Int32) (v : Int32) (hev : EVS n sn dn K F W0 S5 kf ff wf stf) (hrw : ROW tz T tof) : Met l yX12_judge (wW yX12_judge cX12_judge 5 (some .int)) ({ frames := 5, cells := 0, slots := 0, locals := 115 } : Room) (va_Pc [Value.ref g0, Value.int v] (fun U => U.heap.size = sz ∧ va_P (dC, dI) classes [oX12 g0 m_refused m_kind m_figure m_weight m_got m_setting (nI n) (nI sn) dn m_tape m_letter m_letterAt m_told tp mat stm m_kept him ki crs m_price m_offer m_gets m_yes m_buys m_ends m_carried m_row (nI tz) m_keptRow m_likeGets m_likePrice m_ahead, cI aC m_kind 9 kf, cI aC m_figure 9 ff, cI aC m_weight 9 wf, cI aC m_setting 5 stf, cI aC m_price 81 pf, cI aC m_offer 81 of, cI aC m_gets 90 gf, cI aC m_yes 9 yf, cI aC m_buys 9 bf, cI aC m_ends 9 ef, cI aC m_carried 9 cf, cI aC m_row 8 tof, cI aC m_refused 7 mr] U.heap ∧ va_K (dC, dI) classes (TY aC) U ∧ va_D (fun _ => True) [oX12 g0 m_refused m_kind m_figure m_weight m_got m_setting (nI n) (nI sn) dn m_tape m_letter m_letterAt m_told tp mat stm m_kept him ki crs m_price m_offer m_gets m_yes m_buys m_ends m_carried m_row (nI tz) m_keptRow m_likeGets m_likePrice m_ahead, cI aC m_kind 9 kf, cI aC m_figure 9 ff, cI aC m_weight 9 wf, cI aC m_setting 5 stf, cI aC m_price 81 pf, cI aC m_offer 81 of, cI aC m_gets 90 gf, cI aC m_yes 9 yf, cI aC m_buys 9 bf, cI aC m_ends 9 ef, cI aC m_carried 9 cf, cI aC m_row 8 tof, cI aC m_refused 7 mr] ∧ NX U)) (va_Qi (fun (r : Int32) (u : (Nat → Int32) × (Nat → Int32) × (Nat → Int32) × (Nat → Int32) × (Nat → Int32) × (Nat → Int32) × (Nat → Int32) × (Nat → Int32)) => match u with | (pf2, of2, gf2, yf2, bf2, ef2, cf2, mr2) => r = jdR n sn dn S5 tz T (PO n K F W0 S5) v) (fun (u : (Nat → Int32) × (Nat → Int32) × (Nat → Int32) × (Nat → Int32) × (Nat → Int32) × (Nat → Int32) × (Nat → Int32) × (Nat → Int32)) (t : State) => match u with | (pf2, of2, gf2, yf2, bf2, ef2, cf2, mr2) => va_P (dC, dI) classes [oX12 g0 m_refused m_kind m_figure m_weight m_got m_setting (nI n) (nI sn) dn m_tape m_letter m_letterAt m_told tp mat stm m_kept him ki crs m_price m_offer m_gets m_yes m_buys m_ends m_carried m_row (nI tz) m_keptRow m_likeGets m_likePrice m_ahead, cI aC m_kind 9 kf, cI aC m_figure 9 ff, cI aC m_weight 9 wf, cI aC m_setting 5 stf, cI aC m_price 81 pf2, cI aC m_offer 81 of2, cI aC m_gets 90 gf2, cI aC m_yes 9 yf2, cI aC m_buys 9 bf2, cI aC m_ends 9 ef2, cI aC m_carried 9 cf2, cI aC m_row 8 tof, cI aC m_refused 7 mr2] t.heap ∧ va_K (dC, dI) classes (TY aC) t ∧ va_D (va_A [oX12 g0 m_refused m_kind m_figure m_weight m_got m_setting (nI n) (nI sn) dn m_tape m_letter m_letterAt m_told tp mat stm m_kept him ki crs m_price m_offer m_gets m_yes m_buys m_ends m_carried m_row (nI tz) m_keptRow m_likeGets m_likePrice m_ahead, cI aC m_kind 9 kf, cI aC m_figure 9 ff, cI aC m_weight 9 wf, cI aC m_setting 5 stf, cI aC m_price 81 pf, cI aC m_offer 81 of, cI aC m_gets 90 gf, cI aC m_yes 9 yf, cI aC m_buys 9 bf, cI aC m_ends 9 ef, cI aC m_carried 9 cf, cI aC m_row 8 tof, cI aC m_refused 7 mr] sz) [oX12 g0 m_refused m_kind m_figure m_weight m_got m_setting (nI n) (nI sn) dn m_tape m_letter m_letterAt m_told tp mat stm m_kept him ki crs m_price m_offer m_gets m_yes m_buys m_ends m_carried m_row (nI tz) m_keptRow m_likeGets m_likePrice m_ahead, cI aC m_kind 9 kf, cI aC m_figure 9 ff, cI aC m_weight 9 wf, cI aC m_setting 5 stf, cI aC m_price 81 pf2, cI aC m_offer 81 of2, cI aC m_gets 90 gf2, cI aC m_yes 9 yf2, cI aC m_buys 9 bf2, cI aC m_ends 9 ef2, cI aC m_carried 9 cf2, cI aC m_row 8 tof, cI aC m_refused 7 mr2]) (va_A [oX12 g0 m_refused m_kind m_figure m_weight m_got m_setting (nI n) (nI sn) dn m_tape m_letter m_letterAt m_told tp mat stm m_kept him ki crs m_price m_offer m_gets m_yes m_buys m_ends m_carried m_row (nI tz) m_keptRow m_likeGets m_likePrice m_ahead, cI aC m_kind 9 kf, cI aC m_figure 9 ff, cI aC m_weight 9 wf, cI aC m_setting 5 stf, cI aC m_price 81 pf, cI aC m_offer 81 of, cI aC m_gets 90 gf, cI aC m_yes 9 yf, cI aC m_buys 9 bf, cI aC m_ends 9 ef, cI aC m_carried 9 cf, cI aC m_row 8 tof, cI aC m_refused 7 mr] sz)) 0 0 (va_A [oX12 g0 m_refused m_kind m_figure m_weight m_got m_setting (nI n) (nI sn) dn m_tape m_letter m_letterAt m_told tp mat stm m_kept him ki crs m_price m_offer m_gets m_yes m_buys m_ends m_carried m_row (nI tz) m_keptRow m_likeGets m_likePrice m_ahead, cI aC m_kind 9 kf, cI aC m_figure 9 ff, cI aC m_weight 9 wf, cI aC m_setting 5 stf, cI aC m_price 81 pf, cI aC m_offer 81 of, cI aC m_gets 90 gf, cI aC m_yes 9 yf, cI aC m_buys 9 bf, cI aC m_ends 9 ef, cI aC m_carried 9 cf, cI aC m_row 8 tof, cI aC m_refused 7 mr] sz) := by
  refine Met.ofW (cc := cX12_judge) (maxL := 5) (ret := (some .int)) (by decide) rfl ?_
  intro p e s m args below meth c s₁ B hml hv
  obtain ⟨rfl, hsz, hP, hK, hD0, hN⟩ := hv
  have hx := B.exec
  have hb := B.bytes
  have hr := B.returns
  have hts0 := atoms_spec (ws := (wW yX12_judge cX12_judge 5 (some .int))) B.pre
  have hts : ∀ w9 ∈ lw_G, w9.before ([Value.ref g0, Value.int v] : List Value).toArray s = true := fun w9 h9 => hts0 w9 (List.mem_cons_of_mem _ h9)
  have hown : s.vm.findClass RX12 = some m.cls := findClass_of_methodNamed (x := yX12_judge) B.named
  have hlocks := B.notSynchronized
  subst hsz
  have hD := hD0.self (sz := s.heap.size)
  generalize hAe : va_A [oX12 g0 m_refused m_kind m_figure m_weight m_got m_setting (nI n) (nI sn) dn m_tape m_letter m_letterAt m_told tp mat stm m_kept him ki crs m_price m_offer m_gets m_yes m_buys m_ends m_carried m_row (nI tz) m_keptRow m_likeGets m_likePrice m_ahead, cI aC m_kind 9 kf, cI aC m_figure 9 ff, cI aC m_weight 9 wf, cI aC m_setting 5 stf, cI aC m_price 81 pf, cI aC m_offer 81 of, cI aC m_gets 90 gf, cI aC m_yes 9 yf, cI aC m_buys 9 bf, cI aC m_ends 9 ef, cI aC m_carried 9 cf, cI aC m_row 8 tof, cI aC m_refused 7 mr] s.heap.size = A at hD ⊢
  have hA : ∀ q : Nat, s.heap.size ≤ q → A q := fun q h => by rw [← hAe]; exact Or.inr h
  obtain ⟨H, hHe⟩ : ∃ H : Heap, H = s.heap := ⟨_, rfl⟩
  have hS : va_S A s.heap H [] := by rw [hHe]; exact va_S.rf
  have hP : va_P (dC, dI) classes [oX12 g0 m_refused m_kind m_figure m_weight m_got m_setting (nI n) (nI sn) dn m_tape m_letter m_letterAt m_told tp mat stm m_kept him ki crs m_price m_offer m_gets m_yes m_buys m_ends m_carried m_row (nI tz) m_keptRow m_likeGets m_likePrice m_ahead, cI aC m_kind 9 kf, cI aC m_figure 9 ff, cI aC m_weight 9 wf, cI aC m_setting 5 stf, cI aC m_price 81 pf, cI aC m_offer 81 of, cI aC m_gets 90 gf, cI aC m_yes 9 yf, cI aC m_buys 9 bf, cI aC m_ends 9 ef, cI aC m_carried 9 cf, cI aC m_row 8 tof, cI aC m_refused 7 mr] H := by rw [hHe]; exact hP
  have hl := lv_entry ([Value.ref g0, Value.int v]) (n := 5) (Nat.le_of_ble_eq_true rfl)
  rw [lg_entry_eq]
  generalize (lg_sl ([Value.ref g0, Value.int v]) ++ List.replicate (5 - (lg_sl ([Value.ref g0, Value.int v])).length) Slot.unset).toArray = ls at hl ⊢
  have hl : lv_has ls 5 [(0, Value.ref g0), (1, Value.int v)] := hl
  rw [← hHe]
  have hn8 := EVS_n hev
  have ht8 := hrw.1
  refine lv_aload_n hx hb dX12_judge_0 rfl (lv_at hl 0 rfl) ?_
  have hpd9 := pdf_N (cx := [oX12 g0 m_refused m_kind m_figure m_weight m_got m_setting (nI n) (nI sn) dn m_tape m_letter m_letterAt m_told tp mat stm m_kept him ki crs m_price m_offer m_gets m_yes m_buys m_ends m_carried m_row (nI tz) m_keptRow m_likeGets m_likePrice m_ahead]) hP hD hS hA [0] (by decide) rfl
  have hPc := hpd9.1
  have hDc := hpd9.2.1
  have hFc := hpd9.2.2
  clear hpd9
  refine va_calli (va_runV (As := []) (rest := []) ⟨hx, hb, hml, hown, hts⟩ (c_X12_isOver l dC dI aC H.size g0 m_refused m_kind m_figure m_weight m_got m_setting m_tape m_letter m_letterAt m_told m_kept m_price m_offer m_gets m_yes m_buys m_ends m_carried m_row m_keptRow m_likeGets m_likePrice m_ahead (nI n) (nI sn) dn tp mat stm him ki crs (nI tz) ) ⟨(callB_of 0 hts (gG kw_994) rfl rfl rfl (hts _ (gw kw_13 rfl)) (hts _ (gw kw_991 rfl)) hd_X12_isOver ⟨Nat.le_of_ble_eq_true rfl, Nat.le_of_ble_eq_true rfl⟩), (hts _ (gw kw_993 rfl)), (hts _ (gw ks_58 rfl))⟩ ⟨fb_std, va_recv (q := (RX12, TX12, 33)) hK hPc (ci := 12) (q0 := 0) rfl rfl, pre_std hPc hK hDc hN⟩ rfl rfl hl.1 rfl (lv_room (Nat.le_of_ble_eq_true rfl)) dX12_judge_1 ⟨Nat.le_of_ble_eq_true rfl, Nat.le_of_ble_eq_true rfl⟩) hS (fun q _ h => hFc q h) hFc (fun x_1 u9 t9 H1 locs ht hvm hw_1 hB hz1 hk1 hS => ?_)
  obtain ⟨hP1, hK1, hD1⟩ := hB
  rw [ht] at hP1
  clear hK1
  try dsimp only at hw_1
  have hpd9 : PDx (dC, dI) classes A H1 [cI aC m_kind 9 kf, cI aC m_figure 9 ff, cI aC m_weight 9 wf, cI aC m_setting 5 stf, cI aC m_price 81 pf, cI aC m_offer 81 of, cI aC m_gets 90 gf, cI aC m_yes 9 yf, cI aC m_buys 9 bf, cI aC m_ends 9 ef, cI aC m_carried 9 cf, cI aC m_row 8 tof, cI aC m_refused 7 mr, oX12 g0 m_refused m_kind m_figure m_weight m_got m_setting (nI n) (nI sn) dn m_tape m_letter m_letterAt m_told tp mat stm m_kept him ki crs m_price m_offer m_gets m_yes m_buys m_ends m_carried m_row (nI tz) m_keptRow m_likeGets m_likePrice m_ahead] := jn_N (wr := [cI aC m_kind 9 kf, cI aC m_figure 9 ff, cI aC m_weight 9 wf, cI aC m_setting 5 stf, cI aC m_price 81 pf, cI aC m_offer 81 of, cI aC m_gets 90 gf, cI aC m_yes 9 yf, cI aC m_buys 9 bf, cI aC m_ends 9 ef, cI aC m_carried 9 cf, cI aC m_row 8 tof, cI aC m_refused 7 mr]) hFc hk1 hP1 hD1 hP hD [0] [1, 2, 3, 4, 5, 6, 7, 8, 9, 10, 11, 12, 13] rfl rfl (by decide) (by decide)
  have hP := hpd9.1
  have hD := hpd9.2
  clear hpd9
  generalize H1 = H at hP hS ⊢
  clear hPc hDc hFc hz1 hk1 hP1 hD1 ht hvm
  have hz_1 := hw_1
  refine lv_if_eq (tgt := 14) hx hb dX12_judge_4 (by decide) (fun c_2 => ?_) (fun c_2 => ?_)
  · refine lv_iload_n hx hb dX12_judge_14 rfl (lv_at hl 1 rfl) ?_
    refine lv_if_ge (tgt := 25) hx hb dX12_judge_15 (by decide) (fun c_3 => ?_) (fun c_3 => ?_)
    · refine lv_aload_n hx hb dX12_judge_25 rfl (lv_at hl 0 rfl) ?_
      have hpd9 := pdf_N (cx := [oX12 g0 m_refused m_kind m_figure m_weight m_got m_setting (nI n) (nI sn) dn m_tape m_letter m_letterAt m_told tp mat stm m_kept him ki crs m_price m_offer m_gets m_yes m_buys m_ends m_carried m_row (nI tz) m_keptRow m_likeGets m_likePrice m_ahead, cI aC m_setting 5 stf, cI aC m_row 8 tof]) hP hD hS hA [13, 3, 11] (by decide) rfl
      have hPc := hpd9.1
      have hDc := hpd9.2.1
      have hFc := hpd9.2.2
      clear hpd9
      refine va_calli (va_runV (As := []) (rest := []) ⟨hx, hb, hml, hown, hts⟩ (c_X12_isOffer l dC dI aC H.size g0 m_refused m_kind m_figure m_weight m_got m_setting m_tape m_letter m_letterAt m_told m_kept m_price m_offer m_gets m_yes m_buys m_ends m_carried m_row m_keptRow m_likeGets m_likePrice m_ahead tp mat stm him ki crs n sn dn tz T tof kf ff wf stf K F W0 S5 (hev) (hrw)) ⟨(callB_of 0 hts (gG kw_998) rfl rfl rfl (hts _ (gw kw_13 rfl)) (hts _ (gw kw_995 rfl)) hd_X12_isOffer ⟨Nat.le_of_ble_eq_true rfl, Nat.le_of_ble_eq_true rfl⟩), (hts _ (gw kw_997 rfl)), (hts _ (gw ks_59 rfl))⟩ ⟨fb_std, va_recv (q := (RX12, TX12, 33)) hK hPc (ci := 12) (q0 := 0) rfl rfl, pre_std hPc hK hDc hN⟩ rfl rfl hl.1 rfl (lv_room (Nat.le_of_ble_eq_true rfl)) dX12_judge_26 ⟨Nat.le_of_ble_eq_true rfl, Nat.le_of_ble_eq_true rfl⟩) hS (fun q _ h => hFc q h) hFc (fun x_4 u9 t9 H1 locs ht hvm hw_4 hB hz1 hk1 hS => ?_)
      obtain ⟨hP1, hK1, hD1⟩ := hB
      rw [ht] at hP1
      clear hK1
      try dsimp only at hw_4
      have hpd9 : PDx (dC, dI) classes A H1 [cI aC m_kind 9 kf, cI aC m_figure 9 ff, cI aC m_weight 9 wf, cI aC m_price 81 pf, cI aC m_offer 81 of, cI aC m_gets 90 gf, cI aC m_yes 9 yf, cI aC m_buys 9 bf, cI aC m_ends 9 ef, cI aC m_carried 9 cf, cI aC m_refused 7 mr, oX12 g0 m_refused m_kind m_figure m_weight m_got m_setting (nI n) (nI sn) dn m_tape m_letter m_letterAt m_told tp mat stm m_kept him ki crs m_price m_offer m_gets m_yes m_buys m_ends m_carried m_row (nI tz) m_keptRow m_likeGets m_likePrice m_ahead, cI aC m_setting 5 stf, cI aC m_row 8 tof] := jn_N (wr := [cI aC m_kind 9 kf, cI aC m_figure 9 ff, cI aC m_weight 9 wf, cI aC m_price 81 pf, cI aC m_offer 81 of, cI aC m_gets 90 gf, cI aC m_yes 9 yf, cI aC m_buys 9 bf, cI aC m_ends 9 ef, cI aC m_carried 9 cf, cI aC m_refused 7 mr]) hFc hk1 hP1 hD1 hP hD [13, 3, 11] [0, 1, 2, 4, 5, 6, 7, 8, 9, 10, 12] rfl rfl (by decide) (by decide)
      have hP := hpd9.1
      have hD := hpd9.2
      clear hpd9
      generalize H1 = H at hP hS ⊢
      clear hPc hDc hFc hz1 hk1 hP1 hD1 ht hvm
      have hz_26 := hw_4
      refine lv_if_ne (tgt := 34) hx hb dX12_judge_29 (by decide) (fun c_5 => ?_) (fun c_5 => ?_)
      · have hrg : RGT n sn S5 tz T := by
          by_cases q : RGT n sn S5 tz T
          · exact q
          · exact absurd (by rw [hz_26, if_neg q]) c_5
        have hov := ovm_n hz_1 c_2
        have hsn := sn_lt hev hov
        refine lv_aload_n hx hb dX12_judge_34 rfl (lv_at hl 0 rfl) ?_
        have hpd9 := pdf_N (cx := [oX12 g0 m_refused m_kind m_figure m_weight m_got m_setting (nI n) (nI sn) dn m_tape m_letter m_letterAt m_told tp mat stm m_kept him ki crs m_price m_offer m_gets m_yes m_buys m_ends m_carried m_row (nI tz) m_keptRow m_likeGets m_likePrice m_ahead, cI aC m_kind 9 kf, cI aC m_figure 9 ff, cI aC m_weight 9 wf, cI aC m_setting 5 stf, cI aC m_price 81 pf, cI aC m_offer 81 of, cI aC m_gets 90 gf, cI aC m_yes 9 yf, cI aC m_buys 9 bf, cI aC m_ends 9 ef, cI aC m_carried 9 cf]) hP hD hS hA [11, 0, 1, 2, 12, 3, 4, 5, 6, 7, 8, 9] (by decide) rfl
        have hPc := hpd9.1
        have hDc := hpd9.2.1
        have hFc := hpd9.2.2
        clear hpd9
        refine va_callv (va_runV (As := []) (rest := []) ⟨hx, hb, hml, hown, hts⟩ (c_X12_solvesAll l dC dI aC H.size g0 m_refused m_kind m_figure m_weight m_got m_setting m_tape m_letter m_letterAt m_told m_kept m_price m_offer m_gets m_yes m_buys m_ends m_carried m_row m_keptRow m_likeGets m_likePrice m_ahead (nI sn) dn tp mat stm him ki crs (nI tz) n kf ff wf stf pf of gf yf bf ef cf K F W0 (S5 0) (PO n K F W0 S5) (hev.1) (PO_cl hev)) ⟨(callB_of 0 hts (gG kw_896) rfl rfl rfl (hts _ (gw kw_13 rfl)) (hts _ (gw kw_893 rfl)) hd_X12_solvesAll ⟨Nat.le_of_ble_eq_true rfl, Nat.le_of_ble_eq_true rfl⟩), (hts _ (gw kw_895 rfl)), (hts _ (gw ks_45 rfl))⟩ ⟨fb_std, va_recv (q := (RX12, TX12, 33)) hK hPc (ci := 12) (q0 := 0) rfl rfl, pre_std hPc hK hDc hN⟩ rfl rfl hl.1 rfl (lv_room (Nat.le_of_ble_eq_true rfl)) dX12_judge_35 ⟨Nat.le_of_ble_eq_true rfl, Nat.le_of_ble_eq_true rfl⟩) hS (fun q _ h => hFc q h) hFc (fun u9 t9 H1 locs ht hvm hw_6 hB hz1 hk1 hS => ?_)
        obtain ⟨u_7, u_8, u_9, u_10, u_11, u_12, u_13⟩ := u9
        obtain ⟨hP1, hK1, hD1⟩ := hB
        rw [ht] at hP1
        clear hK1
        try dsimp only at hw_6
        have hpd9 : PDx (dC, dI) classes A H1 [cI aC m_refused 7 mr, cI aC m_row 8 tof, oX12 g0 m_refused m_kind m_figure m_weight m_got m_setting (nI n) (nI sn) dn m_tape m_letter m_letterAt m_told tp mat stm m_kept him ki crs m_price m_offer m_gets m_yes m_buys m_ends m_carried m_row (nI tz) m_keptRow m_likeGets m_likePrice m_ahead, cI aC m_kind 9 kf, cI aC m_figure 9 ff, cI aC m_weight 9 wf, cI aC m_setting 5 stf, cI aC m_price 81 u_7, cI aC m_offer 81 u_8, cI aC m_gets 90 u_9, cI aC m_yes 9 u_10, cI aC m_buys 9 u_11, cI aC m_ends 9 u_12, cI aC m_carried 9 u_13] := jn_N (wr := [cI aC m_refused 7 mr, cI aC m_row 8 tof]) hFc hk1 hP1 hD1 hP hD [11, 0, 1, 2, 12, 3, 4, 5, 6, 7, 8, 9] [10, 13] rfl rfl (by decide) (by decide)
        have hP := hpd9.1
        have hD := hpd9.2
        clear hpd9
        generalize H1 = H at hP hS ⊢
        clear hPc hDc hFc hz1 hk1 hP1 hD1 ht hvm
        have hm1 := hw_6
        refine lv_iconst (v := 0) hx hb dX12_judge_38 (by decide) ?_
        refine lv_istore_n (lv' := [(2, Value.int 0), (0, Value.ref g0), (1, Value.int v)]) hx hb dX12_judge_39 rfl hl (by decide) rfl (fun ls hl => ?_)
        have lp_40 : ∀ (fu : Nat) (k : Nat) (hfu : tz - k < fu) (hk : k ≤ tz) (hf : fov (BAD sn v T (zP (PO n K F W0 S5) sn)) 0 (n - sn) = fov (BAD sn v T (zP (PO n K F W0 S5) sn)) k (n - sn - k)) (H : Heap) (locs : List Loc) (ls : Array Slot), va_P (dC, dI) classes [cI aC m_refused 7 mr, cI aC m_row 8 tof, oX12 g0 m_refused m_kind m_figure m_weight m_got m_setting (nI n) (nI sn) dn m_tape m_letter m_letterAt m_told tp mat stm m_kept him ki crs m_price m_offer m_gets m_yes m_buys m_ends m_carried m_row (nI tz) m_keptRow m_likeGets m_likePrice m_ahead, cI aC m_kind 9 kf, cI aC m_figure 9 ff, cI aC m_weight 9 wf, cI aC m_setting 5 stf, cI aC m_price 81 u_7, cI aC m_offer 81 u_8, cI aC m_gets 90 u_9, cI aC m_yes 9 u_10, cI aC m_buys 9 u_11, cI aC m_ends 9 u_12, cI aC m_carried 9 u_13] H → va_D A [cI aC m_refused 7 mr, cI aC m_row 8 tof, oX12 g0 m_refused m_kind m_figure m_weight m_got m_setting (nI n) (nI sn) dn m_tape m_letter m_letterAt m_told tp mat stm m_kept him ki crs m_price m_offer m_gets m_yes m_buys m_ends m_carried m_row (nI tz) m_keptRow m_likeGets m_likePrice m_ahead, cI aC m_kind 9 kf, cI aC m_figure 9 ff, cI aC m_weight 9 wf, cI aC m_setting 5 stf, cI aC m_price 81 u_7, cI aC m_offer 81 u_8, cI aC m_gets 90 u_9, cI aC m_yes 9 u_10, cI aC m_buys 9 u_11, cI aC m_ends 9 u_12, cI aC m_carried 9 u_13] → va_S A s.heap H locs → lv_has ls 5 [(0, Value.ref g0), (1, Value.int v), (2, Value.int (nI k))] → W p l e (headSpec (wW yX12_judge cX12_judge 5 (some .int)) ({ frames := 5, cells := 0, slots := 0, locals := 115 } : Room)).room s m ([Value.ref g0, Value.int v] : List Value).toArray below meth c H locs 0 0 (MQ below (va_Qi (fun (r : Int32) (u : (Nat → Int32) × (Nat → Int32) × (Nat → Int32) × (Nat → Int32) × (Nat → Int32) × (Nat → Int32) × (Nat → Int32) × (Nat → Int32)) => match u with | (pf2, of2, gf2, yf2, bf2, ef2, cf2, mr2) => r = jdR n sn dn S5 tz T (PO n K F W0 S5) v) (fun (u : (Nat → Int32) × (Nat → Int32) × (Nat → Int32) × (Nat → Int32) × (Nat → Int32) × (Nat → Int32) × (Nat → Int32) × (Nat → Int32)) (t : State) => match u with | (pf2, of2, gf2, yf2, bf2, ef2, cf2, mr2) => va_P (dC, dI) classes [oX12 g0 m_refused m_kind m_figure m_weight m_got m_setting (nI n) (nI sn) dn m_tape m_letter m_letterAt m_told tp mat stm m_kept him ki crs m_price m_offer m_gets m_yes m_buys m_ends m_carried m_row (nI tz) m_keptRow m_likeGets m_likePrice m_ahead, cI aC m_kind 9 kf, cI aC m_figure 9 ff, cI aC m_weight 9 wf, cI aC m_setting 5 stf, cI aC m_price 81 pf2, cI aC m_offer 81 of2, cI aC m_gets 90 gf2, cI aC m_yes 9 yf2, cI aC m_buys 9 bf2, cI aC m_ends 9 ef2, cI aC m_carried 9 cf2, cI aC m_row 8 tof, cI aC m_refused 7 mr2] t.heap ∧ va_K (dC, dI) classes (TY aC) t ∧ va_D A [oX12 g0 m_refused m_kind m_figure m_weight m_got m_setting (nI n) (nI sn) dn m_tape m_letter m_letterAt m_told tp mat stm m_kept him ki crs m_price m_offer m_gets m_yes m_buys m_ends m_carried m_row (nI tz) m_keptRow m_likeGets m_likePrice m_ahead, cI aC m_kind 9 kf, cI aC m_figure 9 ff, cI aC m_weight 9 wf, cI aC m_setting 5 stf, cI aC m_price 81 pf2, cI aC m_offer 81 of2, cI aC m_gets 90 gf2, cI aC m_yes 9 yf2, cI aC m_buys 9 bf2, cI aC m_ends 9 ef2, cI aC m_carried 9 cf2, cI aC m_row 8 tof, cI aC m_refused 7 mr2]) A) ([Value.ref g0, Value.int v] : List Value).toArray s 0 0 A) (F0 m 40 ls []) := by
          intro fu
          induction fu with
          | zero => intro k hfu; exact absurd hfu (Nat.not_lt_zero _)
          | succ fu ih_40 =>
            intro k hfu hk hf H locs ls hP hD hS hl
            refine lv_iload_n hx hb dX12_judge_40 rfl (lv_at hl 2 rfl) ?_
            refine lv_aload_n hx hb dX12_judge_41 rfl (lv_at hl 0 rfl) ?_
            refine va_get (D := (dC, dI)) (ci := 12) (v := Value.int (nI tz)) (C := RX12) (T := TX12) (N := 33) hx hb hts inX12 hown hK hP 2 rfl rfl 28 (by decide) (hts _ (gw kw_745 rfl)) (fun _ h9 => h9) rfl dX12_judge_42 ?_
            refine lv_icmp_ge (tgt := 118) hx hb dX12_judge_45 (by decide) (fun c_14 => ?_) (fun c_14 => ?_)
            · refine lv_bipush (v := -9) hx hb dX12_judge_118 (by decide) ?_
              have hpd9 := pd_N (cx := [oX12 g0 m_refused m_kind m_figure m_weight m_got m_setting (nI n) (nI sn) dn m_tape m_letter m_letterAt m_told tp mat stm m_kept him ki crs m_price m_offer m_gets m_yes m_buys m_ends m_carried m_row (nI tz) m_keptRow m_likeGets m_likePrice m_ahead, cI aC m_kind 9 kf, cI aC m_figure 9 ff, cI aC m_weight 9 wf, cI aC m_setting 5 stf, cI aC m_price 81 u_7, cI aC m_offer 81 u_8, cI aC m_gets 90 u_9, cI aC m_yes 9 u_10, cI aC m_buys 9 u_11, cI aC m_ends 9 u_12, cI aC m_carried 9 u_13, cI aC m_row 8 tof, cI aC m_refused 7 mr]) hP hD [2, 3, 4, 5, 6, 7, 8, 9, 10, 11, 12, 13, 1, 0] (by decide) rfl
              have hP9 := hpd9.1
              have hD9 := hpd9.2
              refine W.widen (k := 0) (n := 0) (by omega) (by omega) ?_
              exact W.iret (v := -9) hx hb hr (fun t ht hW => ⟨⟨(-9), (u_7, u_8, u_9, u_10, u_11, u_12, u_13, mr), rfl, by unfold jdR; rw [if_neg (ovm_n hz_1 c_2), if_neg (Int32.not_lt.mpr c_3), if_pos hrg]; rw [hf, show n - sn - k = 0 from by rcases Nat.lt_or_ge k tz with q | q <;> first | exact absurd c_14 (nI_ge q (by omega)) | (have := hrg.1; omega)]; rfl, by rw [ht]; exact hP9, va_K.moved hW.alike hK, hD9⟩, hS.F ht⟩) hS.2.2 dX12_judge_120
            · have hlt : k < tz := by
                rcases Nat.lt_or_ge k tz with q | q
                · exact q
                · exact absurd (nI_le q (by omega)) c_14
              have htz := hrg.1
              have hzp : 0 < k → zP (PO n K F W0 S5) sn (sn + k) ≤ 110 := fun _ => zP_le (PO_cl hev) (HF_of hev.1) (by omega) (by omega)
              refine lv_aload_n hx hb dX12_judge_48 rfl (lv_at hl 0 rfl) ?_
              refine va_get (D := (dC, dI)) (ci := 12) (v := Value.int (nI sn)) (C := RX12) (T := TX12) (N := 33) hx hb hts inX12 hown hK hP 2 rfl rfl 7 (by decide) (hts _ (gw kw_724 rfl)) (fun _ h9 => h9) rfl dX12_judge_49 ?_
              refine lv_iload_n hx hb dX12_judge_52 rfl (lv_at hl 2 rfl) ?_
              refine lv_iadd hx hb dX12_judge_53 ?_
              refine lv_topi (fun x_15 e_15 => ?_)
              have h9 : x_15 = nI (sn + k) := by rw [e_15, nI_add]
              subst h9
              refine lv_istore_n (lv' := [(3, Value.int (nI (sn + k))), (0, Value.ref g0), (1, Value.int v), (2, Value.int (nI k))]) hx hb dX12_judge_54 rfl hl (by decide) rfl (fun ls hl => ?_)
              refine lv_iload_n hx hb dX12_judge_55 rfl (lv_at hl 3 rfl) ?_
              refine lv_if_eq (tgt := 82) hx hb dX12_judge_56 (by decide) (fun c_16 => ?_) (fun c_16 => ?_)
              · refine lv_iconst (v := 1) hx hb dX12_judge_82 (by decide) ?_
                refine lv_goto (tgt := 87) hx hb dX12_judge_83 (by decide) ?_
                have hdu : k = 0 ∨ zP (PO n K F W0 S5) sn (sn + k) ≤ T k := Or.inl ((nI_eq (by omega) (by omega)).mp c_16)
                refine lv_istore (lv' := [(4, Value.int 1), (3, Value.int (nI (sn + k))), (0, Value.ref g0), (1, Value.int v), (2, Value.int (nI k))]) hx hb dX12_judge_87 hl (by decide) rfl (fun ls hl => ?_)
                refine lv_iload hx hb dX12_judge_89 (lv_at hl 0 rfl) ?_
                refine lv_iload_n hx hb dX12_judge_91 rfl (lv_at hl 3 rfl) ?_
                refine lv_iload_n hx hb dX12_judge_92 rfl (lv_at hl 1 rfl) ?_
                refine lv_ishr hx hb dX12_judge_93 ?_
                refine lv_topi (fun x_17 e_17 => ?_)
                refine lv_iconst (v := 1) hx hb dX12_judge_94 (by decide) ?_
                refine lv_iand hx hb dX12_judge_95 ?_
                refine lv_topi (fun x_18 e_18 => ?_)
                refine lv_iconst (v := 1) hx hb dX12_judge_96 (by decide) ?_
                refine lv_icmp_ne (tgt := 104) hx hb dX12_judge_97 (by decide) (fun c_19 => ?_) (fun c_19 => ?_)
                · refine lv_iconst (v := 0) hx hb dX12_judge_104 (by decide) ?_
                  have hye : bt v (sn + k) = false := Bool.eq_false_iff.mpr fun q => c_19 (by rw [e_18, e_17, b_bit (by omega), if_pos q])
                  refine lv_icmp_eq (tgt := 112) hx hb dX12_judge_105 (by decide) (fun c_20 => ?_) (fun c_20 => ?_)
                  · exact absurd c_20 (by decide)
                  · refine lv_iload_n hx hb dX12_judge_108 rfl (lv_at hl 4 rfl) ?_
                    refine lv_iconst (v := 1) hx hb dX12_judge_109 (by decide) ?_
                    refine lv_iadd hx hb dX12_judge_110 ?_
                    refine lv_topi (fun x_21 e_21 => ?_)
                    have hpd9 := pd_N (cx := [oX12 g0 m_refused m_kind m_figure m_weight m_got m_setting (nI n) (nI sn) dn m_tape m_letter m_letterAt m_told tp mat stm m_kept him ki crs m_price m_offer m_gets m_yes m_buys m_ends m_carried m_row (nI tz) m_keptRow m_likeGets m_likePrice m_ahead, cI aC m_kind 9 kf, cI aC m_figure 9 ff, cI aC m_weight 9 wf, cI aC m_setting 5 stf, cI aC m_price 81 u_7, cI aC m_offer 81 u_8, cI aC m_gets 90 u_9, cI aC m_yes 9 u_10, cI aC m_buys 9 u_11, cI aC m_ends 9 u_12, cI aC m_carried 9 u_13, cI aC m_row 8 tof, cI aC m_refused 7 mr]) hP hD [2, 3, 4, 5, 6, 7, 8, 9, 10, 11, 12, 13, 1, 0] (by decide) rfl
                    have hP9 := hpd9.1
                    have hD9 := hpd9.2
                    refine W.widen (k := 0) (n := 0) (by omega) (by omega) ?_
                    exact W.iret (v := x_21) hx hb hr (fun t ht hW => ⟨⟨x_21, (u_7, u_8, u_9, u_10, u_11, u_12, u_13, mr), rfl, by unfold jdR; rw [if_neg (ovm_n hz_1 c_2), if_neg (Int32.not_lt.mpr c_3), if_pos hrg]; rw [e_21, fov_y (by omega) hf (bad_10 hdu hye), nI_1], by rw [ht]; exact hP9, va_K.moved hW.alike hK, hD9⟩, hS.F ht⟩) hS.2.2 dX12_judge_111
                · refine lv_iconst (v := 1) hx hb dX12_judge_100 (by decide) ?_
                  refine lv_goto (tgt := 105) hx hb dX12_judge_101 (by decide) ?_
                  have hye : bt v (sn + k) = true := by
                    by_cases q : bt v (sn + k) = true
                    · exact q
                    · exact absurd (c_19.symm.trans (by rw [e_18, e_17, b_bit (by omega), if_neg q])) (by decide)
                  refine lv_icmp_eq (tgt := 112) hx hb dX12_judge_105 (by decide) (fun c_22 => ?_) (fun c_22 => ?_)
                  · have hf2 := fov_n (by omega) hf (bad_11 hdu hye)
                    obtain ⟨x_23, e_23⟩ : ∃ y : Int32, y = (nI k) + 1 := ⟨_, rfl⟩
                    refine lv_iinc (v := x_23) (lv' := [(2, Value.int x_23), (4, Value.int 1), (3, Value.int (nI (sn + k))), (0, Value.ref g0), (1, Value.int v)]) hx hb dX12_judge_112 hl (k := 4) rfl (by rw [e_23]; rfl) (by decide) rfl (fun ls hl => ?_)
                    have h9 : x_23 = nI (k + 1) := by rw [e_23, nI_1]
                    subst h9
                    refine lv_goto (tgt := 40) hx hb dX12_judge_115 (by decide) ?_
                    exact ih_40 (k + 1) (by omega) (by omega) (hf2) _ _ _ (hP.sub [0, 1, 2, 3, 4, 5, 6, 7, 8, 9, 10, 11, 12, 13] rfl) (hD.sub [0, 1, 2, 3, 4, 5, 6, 7, 8, 9, 10, 11, 12, 13] (by decide) rfl) hS (lv_sub hl [3, 4, 0] rfl)
                  · exact absurd rfl c_22
              · have hk9 : k ≠ 0 := fun q => c_16 (by rw [q]; rfl)
                have hzp9 := hzp (by omega)
                have hT9 := hrw.2 k hlt
                refine lv_aload_n hx hb dX12_judge_59 rfl (lv_at hl 1 rfl) ?_
                refine va_get (D := (dC, dI)) (ci := 12) (v := Value.ref m_row) (C := RX12) (T := TX12) (N := 33) hx hb hts inX12 hown hK hP 2 rfl rfl 27 (by decide) (hts _ (gw kw_744 rfl)) (fun _ h9 => h9) rfl dX12_judge_60 ?_
                refine lv_iload_n hx hb dX12_judge_63 rfl (lv_at hl 3 rfl) ?_
                have h_24 : vp_in (nI k) 8 := by first | exact vp_in_nI (by omega) (by omega) | (unfold vp_in; decide) | (subst_vars; first | (unfold vp_in; decide) | exact vp_in_nI (by omega) (by omega))
                refine va_iald hx hb hK hP 1 0 rfl rfl h_24 dX12_judge_64 ?_
                refine lv_topi (fun x_25 e_25 => ?_)
                have h9 : x_25 = nI (T k) := by rw [e_25, nI_clamp (by omega)]; exact hT9.1
                subst h9
                refine lv_aload_n hx hb dX12_judge_65 rfl (lv_at hl 1 rfl) ?_
                refine va_get (D := (dC, dI)) (ci := 12) (v := Value.ref m_price) (C := RX12) (T := TX12) (N := 33) hx hb hts inX12 hown hK hP 2 rfl rfl 20 (by decide) (hts _ (gw kw_737 rfl)) (fun _ h9 => h9) rfl dX12_judge_66 ?_
                refine lv_bipush (v := 9) hx hb dX12_judge_69 (by decide) ?_
                refine lv_aload_n hx hb dX12_judge_71 rfl (lv_at hl 1 rfl) ?_
                refine va_get (D := (dC, dI)) (ci := 12) (v := Value.int (nI sn)) (C := RX12) (T := TX12) (N := 33) hx hb hts inX12 hown hK hP 2 rfl rfl 7 (by decide) (hts _ (gw kw_724 rfl)) (fun _ h9 => h9) rfl dX12_judge_72 ?_
                refine lv_imul hx hb dX12_judge_75 ?_
                refine lv_topi (fun x_26 e_26 => ?_)
                have h9 : x_26 = nI (9 * sn) := by rw [e_26]; exact pk_mul 9 sn
                subst h9
                refine lv_iload_n hx hb dX12_judge_76 rfl (lv_at hl 0 rfl) ?_
                refine lv_iadd hx hb dX12_judge_77 ?_
                refine lv_topi (fun x_27 e_27 => ?_)
                have h9 : x_27 = nI (9 * sn + (sn + k)) := by rw [e_27, nI_add]
                subst h9
                have h_28 : vp_in (nI (9 * sn + (sn + k))) 81 := by first | exact vp_in_nI (by omega) (by omega) | (unfold vp_in; decide) | (subst_vars; first | (unfold vp_in; decide) | exact vp_in_nI (by omega) (by omega))
                refine va_iald hx hb hK hP 7 0 rfl rfl h_28 dX12_judge_78 ?_
                refine lv_topi (fun x_29 e_29 => ?_)
                have h9 : x_29 = nI (zP (PO n K F W0 S5) sn (sn + k)) := by rw [e_29, nI_clamp (by omega)]; exact (hm1 sn hsn).1 (sn + k) (by omega) (by omega)
                subst h9
                refine lv_icmp_lt (tgt := 86) hx hb dX12_judge_79 (by decide) (fun c_30 => ?_) (fun c_30 => ?_)
                · refine lv_iconst (v := 0) hx hb dX12_judge_86 (by decide) ?_
                  have hdu : ¬ (k = 0 ∨ zP (PO n K F W0 S5) sn (sn + k) ≤ T k) := fun q => by
                    have := (nI_ltI (by omega) (by omega)).mp c_30
                    omega
                  refine lv_istore (lv' := [(4, Value.int 0), (3, Value.int (nI (sn + k))), (0, Value.ref g0), (1, Value.int v), (2, Value.int (nI k))]) hx hb dX12_judge_87 hl (by decide) rfl (fun ls hl => ?_)
                  refine lv_iload hx hb dX12_judge_89 (lv_at hl 0 rfl) ?_
                  refine lv_iload_n hx hb dX12_judge_91 rfl (lv_at hl 3 rfl) ?_
                  refine lv_iload_n hx hb dX12_judge_92 rfl (lv_at hl 1 rfl) ?_
                  refine lv_ishr hx hb dX12_judge_93 ?_
                  refine lv_topi (fun x_31 e_31 => ?_)
                  refine lv_iconst (v := 1) hx hb dX12_judge_94 (by decide) ?_
                  refine lv_iand hx hb dX12_judge_95 ?_
                  refine lv_topi (fun x_32 e_32 => ?_)
                  refine lv_iconst (v := 1) hx hb dX12_judge_96 (by decide) ?_
                  refine lv_icmp_ne (tgt := 104) hx hb dX12_judge_97 (by decide) (fun c_33 => ?_) (fun c_33 => ?_)
                  · refine lv_iconst (v := 0) hx hb dX12_judge_104 (by decide) ?_
                    have hye : bt v (sn + k) = false := Bool.eq_false_iff.mpr fun q => c_33 (by rw [e_32, e_31, b_bit (by omega), if_pos q])
                    refine lv_icmp_eq (tgt := 112) hx hb dX12_judge_105 (by decide) (fun c_34 => ?_) (fun c_34 => ?_)
                    · have hf2 := fov_n (by omega) hf (bad_00 hdu hye)
                      obtain ⟨x_35, e_35⟩ : ∃ y : Int32, y = (nI k) + 1 := ⟨_, rfl⟩
                      refine lv_iinc (v := x_35) (lv' := [(2, Value.int x_35), (4, Value.int 0), (3, Value.int (nI (sn + k))), (0, Value.ref g0), (1, Value.int v)]) hx hb dX12_judge_112 hl (k := 4) rfl (by rw [e_35]; rfl) (by decide) rfl (fun ls hl => ?_)
                      have h9 : x_35 = nI (k + 1) := by rw [e_35, nI_1]
                      subst h9
                      refine lv_goto (tgt := 40) hx hb dX12_judge_115 (by decide) ?_
                      exact ih_40 (k + 1) (by omega) (by omega) (hf2) _ _ _ (hP.sub [0, 1, 2, 3, 4, 5, 6, 7, 8, 9, 10, 11, 12, 13] rfl) (hD.sub [0, 1, 2, 3, 4, 5, 6, 7, 8, 9, 10, 11, 12, 13] (by decide) rfl) hS (lv_sub hl [3, 4, 0] rfl)
                    · exact absurd rfl c_34
                  · refine lv_iconst (v := 1) hx hb dX12_judge_100 (by decide) ?_
                    refine lv_goto (tgt := 105) hx hb dX12_judge_101 (by decide) ?_
                    have hye : bt v (sn + k) = true := by
                      by_cases q : bt v (sn + k) = true
                      · exact q
                      · exact absurd (c_33.symm.trans (by rw [e_32, e_31, b_bit (by omega), if_neg q])) (by decide)
                    refine lv_icmp_eq (tgt := 112) hx hb dX12_judge_105 (by decide) (fun c_36 => ?_) (fun c_36 => ?_)
                    · exact absurd c_36 (by decide)
                    · refine lv_iload_n hx hb dX12_judge_108 rfl (lv_at hl 4 rfl) ?_
                      refine lv_iconst (v := 1) hx hb dX12_judge_109 (by decide) ?_
                      refine lv_iadd hx hb dX12_judge_110 ?_
                      refine lv_topi (fun x_37 e_37 => ?_)
                      have hpd9 := pd_N (cx := [oX12 g0 m_refused m_kind m_figure m_weight m_got m_setting (nI n) (nI sn) dn m_tape m_letter m_letterAt m_told tp mat stm m_kept him ki crs m_price m_offer m_gets m_yes m_buys m_ends m_carried m_row (nI tz) m_keptRow m_likeGets m_likePrice m_ahead, cI aC m_kind 9 kf, cI aC m_figure 9 ff, cI aC m_weight 9 wf, cI aC m_setting 5 stf, cI aC m_price 81 u_7, cI aC m_offer 81 u_8, cI aC m_gets 90 u_9, cI aC m_yes 9 u_10, cI aC m_buys 9 u_11, cI aC m_ends 9 u_12, cI aC m_carried 9 u_13, cI aC m_row 8 tof, cI aC m_refused 7 mr]) hP hD [2, 3, 4, 5, 6, 7, 8, 9, 10, 11, 12, 13, 1, 0] (by decide) rfl
                      have hP9 := hpd9.1
                      have hD9 := hpd9.2
                      refine W.widen (k := 0) (n := 0) (by omega) (by omega) ?_
                      exact W.iret (v := x_37) hx hb hr (fun t ht hW => ⟨⟨x_37, (u_7, u_8, u_9, u_10, u_11, u_12, u_13, mr), rfl, by unfold jdR; rw [if_neg (ovm_n hz_1 c_2), if_neg (Int32.not_lt.mpr c_3), if_pos hrg]; rw [e_37, fov_y (by omega) hf (bad_01 hdu hye), nI_1], by rw [ht]; exact hP9, va_K.moved hW.alike hK, hD9⟩, hS.F ht⟩) hS.2.2 dX12_judge_111
                · refine lv_iconst (v := 1) hx hb dX12_judge_82 (by decide) ?_
                  refine lv_goto (tgt := 87) hx hb dX12_judge_83 (by decide) ?_
                  have hdu : k = 0 ∨ zP (PO n K F W0 S5) sn (sn + k) ≤ T k := Or.inr (Nat.le_of_not_lt fun q => c_30 (nI_lt q (by omega)))
                  refine lv_istore (lv' := [(4, Value.int 1), (3, Value.int (nI (sn + k))), (0, Value.ref g0), (1, Value.int v), (2, Value.int (nI k))]) hx hb dX12_judge_87 hl (by decide) rfl (fun ls hl => ?_)
                  refine lv_iload hx hb dX12_judge_89 (lv_at hl 0 rfl) ?_
                  refine lv_iload_n hx hb dX12_judge_91 rfl (lv_at hl 3 rfl) ?_
                  refine lv_iload_n hx hb dX12_judge_92 rfl (lv_at hl 1 rfl) ?_
                  refine lv_ishr hx hb dX12_judge_93 ?_
                  refine lv_topi (fun x_38 e_38 => ?_)
                  refine lv_iconst (v := 1) hx hb dX12_judge_94 (by decide) ?_
                  refine lv_iand hx hb dX12_judge_95 ?_
                  refine lv_topi (fun x_39 e_39 => ?_)
                  refine lv_iconst (v := 1) hx hb dX12_judge_96 (by decide) ?_
                  refine lv_icmp_ne (tgt := 104) hx hb dX12_judge_97 (by decide) (fun c_40 => ?_) (fun c_40 => ?_)
                  · refine lv_iconst (v := 0) hx hb dX12_judge_104 (by decide) ?_
                    have hye : bt v (sn + k) = false := Bool.eq_false_iff.mpr fun q => c_40 (by rw [e_39, e_38, b_bit (by omega), if_pos q])
                    refine lv_icmp_eq (tgt := 112) hx hb dX12_judge_105 (by decide) (fun c_41 => ?_) (fun c_41 => ?_)
                    · exact absurd c_41 (by decide)
                    · refine lv_iload_n hx hb dX12_judge_108 rfl (lv_at hl 4 rfl) ?_
                      refine lv_iconst (v := 1) hx hb dX12_judge_109 (by decide) ?_
                      refine lv_iadd hx hb dX12_judge_110 ?_
                      refine lv_topi (fun x_42 e_42 => ?_)
                      have hpd9 := pd_N (cx := [oX12 g0 m_refused m_kind m_figure m_weight m_got m_setting (nI n) (nI sn) dn m_tape m_letter m_letterAt m_told tp mat stm m_kept him ki crs m_price m_offer m_gets m_yes m_buys m_ends m_carried m_row (nI tz) m_keptRow m_likeGets m_likePrice m_ahead, cI aC m_kind 9 kf, cI aC m_figure 9 ff, cI aC m_weight 9 wf, cI aC m_setting 5 stf, cI aC m_price 81 u_7, cI aC m_offer 81 u_8, cI aC m_gets 90 u_9, cI aC m_yes 9 u_10, cI aC m_buys 9 u_11, cI aC m_ends 9 u_12, cI aC m_carried 9 u_13, cI aC m_row 8 tof, cI aC m_refused 7 mr]) hP hD [2, 3, 4, 5, 6, 7, 8, 9, 10, 11, 12, 13, 1, 0] (by decide) rfl
                      have hP9 := hpd9.1
                      have hD9 := hpd9.2
                      refine W.widen (k := 0) (n := 0) (by omega) (by omega) ?_
                      exact W.iret (v := x_42) hx hb hr (fun t ht hW => ⟨⟨x_42, (u_7, u_8, u_9, u_10, u_11, u_12, u_13, mr), rfl, by unfold jdR; rw [if_neg (ovm_n hz_1 c_2), if_neg (Int32.not_lt.mpr c_3), if_pos hrg]; rw [e_42, fov_y (by omega) hf (bad_10 hdu hye), nI_1], by rw [ht]; exact hP9, va_K.moved hW.alike hK, hD9⟩, hS.F ht⟩) hS.2.2 dX12_judge_111
                  · refine lv_iconst (v := 1) hx hb dX12_judge_100 (by decide) ?_
                    refine lv_goto (tgt := 105) hx hb dX12_judge_101 (by decide) ?_
                    have hye : bt v (sn + k) = true := by
                      by_cases q : bt v (sn + k) = true
                      · exact q
                      · exact absurd (c_40.symm.trans (by rw [e_39, e_38, b_bit (by omega), if_neg q])) (by decide)
                    refine lv_icmp_eq (tgt := 112) hx hb dX12_judge_105 (by decide) (fun c_43 => ?_) (fun c_43 => ?_)
                    · have hf2 := fov_n (by omega) hf (bad_11 hdu hye)
                      obtain ⟨x_44, e_44⟩ : ∃ y : Int32, y = (nI k) + 1 := ⟨_, rfl⟩
                      refine lv_iinc (v := x_44) (lv' := [(2, Value.int x_44), (4, Value.int 1), (3, Value.int (nI (sn + k))), (0, Value.ref g0), (1, Value.int v)]) hx hb dX12_judge_112 hl (k := 4) rfl (by rw [e_44]; rfl) (by decide) rfl (fun ls hl => ?_)
                      have h9 : x_44 = nI (k + 1) := by rw [e_44, nI_1]
                      subst h9
                      refine lv_goto (tgt := 40) hx hb dX12_judge_115 (by decide) ?_
                      exact ih_40 (k + 1) (by omega) (by omega) (hf2) _ _ _ (hP.sub [0, 1, 2, 3, 4, 5, 6, 7, 8, 9, 10, 11, 12, 13] rfl) (hD.sub [0, 1, 2, 3, 4, 5, 6, 7, 8, 9, 10, 11, 12, 13] (by decide) rfl) hS (lv_sub hl [3, 4, 0] rfl)
                    · exact absurd rfl c_43
        exact lp_40 ((tz - 0) + 1) 0 (Nat.lt_succ_self _) (by omega) (rfl) _ _ _ (hP.sub [0, 1, 2, 3, 4, 5, 6, 7, 8, 9, 10, 11, 12, 13] rfl) (hD.sub [0, 1, 2, 3, 4, 5, 6, 7, 8, 9, 10, 11, 12, 13] (by decide) rfl) hS (lv_sub hl [1, 2, 0] rfl)
      · refine lv_iconst (v := 0) hx hb dX12_judge_32 (by decide) ?_
        have hpd9 := pd_N (cx := [oX12 g0 m_refused m_kind m_figure m_weight m_got m_setting (nI n) (nI sn) dn m_tape m_letter m_letterAt m_told tp mat stm m_kept him ki crs m_price m_offer m_gets m_yes m_buys m_ends m_carried m_row (nI tz) m_keptRow m_likeGets m_likePrice m_ahead, cI aC m_kind 9 kf, cI aC m_figure 9 ff, cI aC m_weight 9 wf, cI aC m_setting 5 stf, cI aC m_price 81 pf, cI aC m_offer 81 of, cI aC m_gets 90 gf, cI aC m_yes 9 yf, cI aC m_buys 9 bf, cI aC m_ends 9 ef, cI aC m_carried 9 cf, cI aC m_row 8 tof, cI aC m_refused 7 mr]) hP hD [11, 0, 1, 2, 12, 3, 4, 5, 6, 7, 8, 9, 13, 10] (by decide) rfl
        have hP9 := hpd9.1
        have hD9 := hpd9.2
        refine W.widen (k := 0) (n := 0) (by omega) (by omega) ?_
        exact W.iret (v := 0) hx hb hr (fun t ht hW => ⟨⟨0, (pf, of, gf, yf, bf, ef, cf, mr), rfl, by unfold jdR; rw [if_neg (ovm_n hz_1 c_2), if_neg (Int32.not_lt.mpr c_3), if_neg (fun q => absurd (hz_26.symm.trans c_5) (by rw [if_pos q]; decide))], by rw [ht]; exact hP9, va_K.moved hW.alike hK, hD9⟩, hS.F ht⟩) hS.2.2 dX12_judge_33
    · refine lv_aload_n hx hb dX12_judge_18 rfl (lv_at hl 0 rfl) ?_
      refine lv_bipush (v := -4) hx hb dX12_judge_19 (by decide) ?_
      have hpd9 := pdf_N (cx := [oX12 g0 m_refused m_kind m_figure m_weight m_got m_setting (nI n) (nI sn) dn m_tape m_letter m_letterAt m_told tp mat stm m_kept him ki crs m_price m_offer m_gets m_yes m_buys m_ends m_carried m_row (nI tz) m_keptRow m_likeGets m_likePrice m_ahead, cI aC m_refused 7 mr]) hP hD hS hA [13, 12] (by decide) rfl
      have hPc := hpd9.1
      have hDc := hpd9.2.1
      have hFc := hpd9.2.2
      clear hpd9
      refine va_calli (va_runV (As := [Value.int (-4)]) (rest := []) ⟨hx, hb, hml, hown, hts⟩ (c_X12_no l dC dI aC H.size g0 m_refused m_kind m_figure m_weight m_got m_setting m_tape m_letter m_letterAt m_told m_kept m_price m_offer m_gets m_yes m_buys m_ends m_carried m_row m_keptRow m_likeGets m_likePrice m_ahead (nI n) (nI sn) dn tp mat stm him ki crs (nI tz) (-4) 4 mr (by decide) (by unfold vp_in; decide)) ⟨(callB_of 1 hts (gG kw_827) rfl rfl rfl (hts _ (gw kw_13 rfl)) (hts _ (gw kw_824 rfl)) hd_X12_no ⟨Nat.le_of_ble_eq_true rfl, Nat.le_of_ble_eq_true rfl⟩), (hts _ (gw kw_826 rfl)), (hts _ (gw ks_35 rfl))⟩ ⟨fb_std, va_recv (q := (RX12, TX12, 33)) hK hPc (ci := 12) (q0 := 0) rfl rfl, pre_std hPc hK hDc hN⟩ rfl rfl hl.1 rfl (lv_room (Nat.le_of_ble_eq_true rfl)) dX12_judge_21 ⟨Nat.le_of_ble_eq_true rfl, Nat.le_of_ble_eq_true rfl⟩) hS (fun q _ h => hFc q h) hFc (fun x_45 u9 t9 H1 locs ht hvm hw_45 hB hz1 hk1 hS => ?_)
      obtain ⟨u_46, rfl⟩ : ∃ z, z = u9 := ⟨_, rfl⟩
      obtain ⟨hP1, hK1, hD1⟩ := hB
      rw [ht] at hP1
      clear hK1
      try dsimp only at hw_45
      have hpd9 : PDx (dC, dI) classes A H1 [cI aC m_kind 9 kf, cI aC m_figure 9 ff, cI aC m_weight 9 wf, cI aC m_setting 5 stf, cI aC m_price 81 pf, cI aC m_offer 81 of, cI aC m_gets 90 gf, cI aC m_yes 9 yf, cI aC m_buys 9 bf, cI aC m_ends 9 ef, cI aC m_carried 9 cf, cI aC m_row 8 tof, oX12 g0 m_refused m_kind m_figure m_weight m_got m_setting (nI n) (nI sn) dn m_tape m_letter m_letterAt m_told tp mat stm m_kept him ki crs m_price m_offer m_gets m_yes m_buys m_ends m_carried m_row (nI tz) m_keptRow m_likeGets m_likePrice m_ahead, cI aC m_refused 7 u_46] := jn_N (wr := [cI aC m_kind 9 kf, cI aC m_figure 9 ff, cI aC m_weight 9 wf, cI aC m_setting 5 stf, cI aC m_price 81 pf, cI aC m_offer 81 of, cI aC m_gets 90 gf, cI aC m_yes 9 yf, cI aC m_buys 9 bf, cI aC m_ends 9 ef, cI aC m_carried 9 cf, cI aC m_row 8 tof]) hFc hk1 hP1 hD1 hP hD [13, 12] [0, 1, 2, 3, 4, 5, 6, 7, 8, 9, 10, 11] rfl rfl (by decide) (by decide)
      have hP := hpd9.1
      have hD := hpd9.2
      clear hpd9
      generalize H1 = H at hP hS ⊢
      clear hPc hDc hFc hz1 hk1 hP1 hD1 ht hvm
      obtain ⟨hv9, -⟩ := hw_45
      have hpd9 := pd_N (cx := [oX12 g0 m_refused m_kind m_figure m_weight m_got m_setting (nI n) (nI sn) dn m_tape m_letter m_letterAt m_told tp mat stm m_kept him ki crs m_price m_offer m_gets m_yes m_buys m_ends m_carried m_row (nI tz) m_keptRow m_likeGets m_likePrice m_ahead, cI aC m_kind 9 kf, cI aC m_figure 9 ff, cI aC m_weight 9 wf, cI aC m_setting 5 stf, cI aC m_price 81 pf, cI aC m_offer 81 of, cI aC m_gets 90 gf, cI aC m_yes 9 yf, cI aC m_buys 9 bf, cI aC m_ends 9 ef, cI aC m_carried 9 cf, cI aC m_row 8 tof, cI aC m_refused 7 u_46]) hP hD [12, 0, 1, 2, 3, 4, 5, 6, 7, 8, 9, 10, 11, 13] (by decide) rfl
      have hP9 := hpd9.1
      have hD9 := hpd9.2
      refine W.widen (k := 0) (n := 0) (by omega) (by omega) ?_
      exact W.iret (v := x_45) hx hb hr (fun t ht hW => ⟨⟨x_45, (pf, of, gf, yf, bf, ef, cf, u_46), rfl, by rw [hv9]; unfold jdR; rw [if_neg (ovm_n hz_1 c_2), if_pos (Int32.not_le.mp c_3)], by rw [ht]; exact hP9, va_K.moved hW.alike hK, hD9⟩, hS.F ht⟩) hS.2.2 dX12_judge_24
  · refine lv_aload_n hx hb dX12_judge_7 rfl (lv_at hl 0 rfl) ?_
    refine lv_bipush (v := -3) hx hb dX12_judge_8 (by decide) ?_
    have hpd9 := pdf_N (cx := [oX12 g0 m_refused m_kind m_figure m_weight m_got m_setting (nI n) (nI sn) dn m_tape m_letter m_letterAt m_told tp mat stm m_kept him ki crs m_price m_offer m_gets m_yes m_buys m_ends m_carried m_row (nI tz) m_keptRow m_likeGets m_likePrice m_ahead, cI aC m_refused 7 mr]) hP hD hS hA [13, 12] (by decide) rfl
    have hPc := hpd9.1
    have hDc := hpd9.2.1
    have hFc := hpd9.2.2
    clear hpd9
    refine va_calli (va_runV (As := [Value.int (-3)]) (rest := []) ⟨hx, hb, hml, hown, hts⟩ (c_X12_no l dC dI aC H.size g0 m_refused m_kind m_figure m_weight m_got m_setting m_tape m_letter m_letterAt m_told m_kept m_price m_offer m_gets m_yes m_buys m_ends m_carried m_row m_keptRow m_likeGets m_likePrice m_ahead (nI n) (nI sn) dn tp mat stm him ki crs (nI tz) (-3) 3 mr (by decide) (by unfold vp_in; decide)) ⟨(callB_of 1 hts (gG kw_827) rfl rfl rfl (hts _ (gw kw_13 rfl)) (hts _ (gw kw_824 rfl)) hd_X12_no ⟨Nat.le_of_ble_eq_true rfl, Nat.le_of_ble_eq_true rfl⟩), (hts _ (gw kw_826 rfl)), (hts _ (gw ks_35 rfl))⟩ ⟨fb_std, va_recv (q := (RX12, TX12, 33)) hK hPc (ci := 12) (q0 := 0) rfl rfl, pre_std hPc hK hDc hN⟩ rfl rfl hl.1 rfl (lv_room (Nat.le_of_ble_eq_true rfl)) dX12_judge_10 ⟨Nat.le_of_ble_eq_true rfl, Nat.le_of_ble_eq_true rfl⟩) hS (fun q _ h => hFc q h) hFc (fun x_47 u9 t9 H1 locs ht hvm hw_47 hB hz1 hk1 hS => ?_)
    obtain ⟨u_48, rfl⟩ : ∃ z, z = u9 := ⟨_, rfl⟩
    obtain ⟨hP1, hK1, hD1⟩ := hB
    rw [ht] at hP1
    clear hK1
    try dsimp only at hw_47
    have hpd9 : PDx (dC, dI) classes A H1 [cI aC m_kind 9 kf, cI aC m_figure 9 ff, cI aC m_weight 9 wf, cI aC m_setting 5 stf, cI aC m_price 81 pf, cI aC m_offer 81 of, cI aC m_gets 90 gf, cI aC m_yes 9 yf, cI aC m_buys 9 bf, cI aC m_ends 9 ef, cI aC m_carried 9 cf, cI aC m_row 8 tof, oX12 g0 m_refused m_kind m_figure m_weight m_got m_setting (nI n) (nI sn) dn m_tape m_letter m_letterAt m_told tp mat stm m_kept him ki crs m_price m_offer m_gets m_yes m_buys m_ends m_carried m_row (nI tz) m_keptRow m_likeGets m_likePrice m_ahead, cI aC m_refused 7 u_48] := jn_N (wr := [cI aC m_kind 9 kf, cI aC m_figure 9 ff, cI aC m_weight 9 wf, cI aC m_setting 5 stf, cI aC m_price 81 pf, cI aC m_offer 81 of, cI aC m_gets 90 gf, cI aC m_yes 9 yf, cI aC m_buys 9 bf, cI aC m_ends 9 ef, cI aC m_carried 9 cf, cI aC m_row 8 tof]) hFc hk1 hP1 hD1 hP hD [13, 12] [0, 1, 2, 3, 4, 5, 6, 7, 8, 9, 10, 11] rfl rfl (by decide) (by decide)
    have hP := hpd9.1
    have hD := hpd9.2
    clear hpd9
    generalize H1 = H at hP hS ⊢
    clear hPc hDc hFc hz1 hk1 hP1 hD1 ht hvm
    obtain ⟨hv9, -⟩ := hw_47
    have hpd9 := pd_N (cx := [oX12 g0 m_refused m_kind m_figure m_weight m_got m_setting (nI n) (nI sn) dn m_tape m_letter m_letterAt m_told tp mat stm m_kept him ki crs m_price m_offer m_gets m_yes m_buys m_ends m_carried m_row (nI tz) m_keptRow m_likeGets m_likePrice m_ahead, cI aC m_kind 9 kf, cI aC m_figure 9 ff, cI aC m_weight 9 wf, cI aC m_setting 5 stf, cI aC m_price 81 pf, cI aC m_offer 81 of, cI aC m_gets 90 gf, cI aC m_yes 9 yf, cI aC m_buys 9 bf, cI aC m_ends 9 ef, cI aC m_carried 9 cf, cI aC m_row 8 tof, cI aC m_refused 7 u_48]) hP hD [12, 0, 1, 2, 3, 4, 5, 6, 7, 8, 9, 10, 11, 13] (by decide) rfl
    have hP9 := hpd9.1
    have hD9 := hpd9.2
    refine W.widen (k := 0) (n := 0) (by omega) (by omega) ?_
    exact W.iret (v := x_47) hx hb hr (fun t ht hW => ⟨⟨x_47, (pf, of, gf, yf, bf, ef, cf, u_48), rfl, by rw [hv9]; unfold jdR; rw [if_pos (ovm_y hn8 hz_1 c_2)], by rw [ht]; exact hP9, va_K.moved hW.alike hK, hD9⟩, hS.F ht⟩) hS.2.2 dX12_judge_13
