theorem PK_ev {b n sn : Nat} {dn : Int32} {K F W S5 : Nat → Nat} {kp k f w p s k2 f2 w2 p2 s2 : Nat → Int32} {n2 sn2 dn2 n3 sn3 dn3 : Int32} (h : PK b kp k f w p s n3 sn3 dn3) (h2 : PK b kp k2 f2 w2 p2 s2 n2 sn2 dn2) (he : EVS n sn dn K F W S5 k f w s) : EVS n sn dn K F W S5 k2 f2 w2 s2 ∧ (∀ j, j < 8 → p2 j = p j) ∧ n2 = n3 ∧ sn2 = sn3 ∧ dn2 = dn3 := by
  obtain ⟨a1, a2, a3, a4, a5, a6, a7, a8⟩ := h
  obtain ⟨b1, b2, b3, b4, b5, b6, b7, b8⟩ := h2
  exact ⟨EVS_cp he (fun j hj => (b1 j (by omega)).symm.trans (a1 j (by omega))) (fun j hj => (b2 j (by omega)).symm.trans (a2 j (by omega))) (fun j hj => (b3 j (by omega)).symm.trans (a3 j (by omega))) (fun j hj => (b5 j hj).symm.trans (a5 j hj)), fun j hj => (b4 j hj).symm.trans (a4 j hj), b6.symm.trans a6, b7.symm.trans a7, b8.symm.trans a8⟩
theorem w5 {w : Int32} (h : ¬ 4 < w) : w < 5 := Int32.lt_of_le_of_lt (Int32.not_lt.mp h) (by decide)
theorem w5n {w : Int32} (h : 4 < w) : 5 ≤ w := by
  by_cases q : 5 ≤ w
  · exact q
  · exfalso
    have h0 : ¬ w < 0 := fun z => absurd (Int32.lt_trans h z) (by decide)
    obtain ⟨j, j1, j2⟩ := ix_of (n := 5) (by omega) h0 (fun z => q z)
    subst j2
    have := (nI_ltI (a := 4) (b := j) (by omega) (by omega)).mp h
    omega
theorem w3 {w : Int32} (h0 : ¬ w < 0) (h2 : ¬ 2 < w) (h : ¬ w = 0) (h1 : ¬ w = 1) : w = 2 := by
  obtain ⟨j, j1, j2⟩ := ix_of (n := 3) (by omega) h0 (fun z => h2 (Int32.lt_of_lt_of_le (by decide) z))
  subst j2
  have : j ≠ 0 := fun e => h (by rw [e]; rfl)
  have : j ≠ 1 := fun e => h1 (by rw [e]; rfl)
  have : j = 2 := by omega
  subst this; rfl

set_option maxHeartbeats 1000000 in
set_option maxRecDepth 100000 in
/-- X12_image -/
theorem c_X12_image (l : Launch) (dC : Nat → ClassId) (dI : Nat → Nat → Nat) (aC : Nat → ClassId) (sz : Nat) (g0 : Nat) (m_refused : Nat) (m_kind : Nat) (m_figure : Nat) (m_weight : Nat) (m_got : Nat) (m_setting : Nat) (m_tape : Nat) (m_letter : Nat) (m_letterAt : Nat) (m_told : Nat) (m_kept : Nat) (m_price : Nat) (m_offer : Nat) (m_gets : Nat) (m_yes : Nat) (m_buys : Nat) (m_ends : Nat) (m_carried : Nat) (m_row : Nat) (m_keptRow : Nat) (m_likeGets : Nat) (m_likePrice : Nat) (m_ahead : Nat) (tp : Int32) (mat : Int32) (stm : Int32) (him : Int32) (ki : Int32) (crs : Int32) (rm : Int32) (n : Nat) (sn : Nat) (dn : Int32) (kp : Nat → Int32) (kf : Nat → Int32) (ff : Nat → Int32) (wf : Nat → Int32) (pf : Nat → Int32) (stf : Nat → Int32)  : Met l yX12_image (wW yX12_image cX12_image 1 (some .int)) ({ frames := 2, cells := 0, slots := 0, locals := 44 } : Room) (va_Pc [Value.ref g0] (fun U => U.heap.size = sz ∧ va_P (dC, dI) classes [oX12 g0 m_refused m_kind m_figure m_weight m_got m_setting (nI n) (nI sn) dn m_tape m_letter m_letterAt m_told tp mat stm m_kept him ki crs m_price m_offer m_gets m_yes m_buys m_ends m_carried m_row rm m_keptRow m_likeGets m_likePrice m_ahead, cI aC m_kept 100 kp, cI aC m_kind 9 kf, cI aC m_figure 9 ff, cI aC m_weight 9 wf, cI aC m_got 8 pf, cI aC m_setting 5 stf] U.heap ∧ va_K (dC, dI) classes (TY aC) U ∧ va_D (fun _ => True) [oX12 g0 m_refused m_kind m_figure m_weight m_got m_setting (nI n) (nI sn) dn m_tape m_letter m_letterAt m_told tp mat stm m_kept him ki crs m_price m_offer m_gets m_yes m_buys m_ends m_carried m_row rm m_keptRow m_likeGets m_likePrice m_ahead, cI aC m_kept 100 kp, cI aC m_kind 9 kf, cI aC m_figure 9 ff, cI aC m_weight 9 wf, cI aC m_got 8 pf, cI aC m_setting 5 stf] ∧ NX U)) (va_Qi (fun (r : Int32) (u : Int32 × (Nat → Int32)) => match u with | (cu2, kq) => r = nI n ∧ PK 0 kq kf ff wf pf stf (nI n) (nI sn) dn ∧ ∀ q, 43 ≤ q → kq q = kp q) (fun (u : Int32 × (Nat → Int32)) (t : State) => match u with | (cu2, kq) => va_P (dC, dI) classes [oX12 g0 m_refused m_kind m_figure m_weight m_got m_setting (nI n) (nI sn) dn m_tape m_letter m_letterAt m_told tp mat stm m_kept 1 1 cu2 m_price m_offer m_gets m_yes m_buys m_ends m_carried m_row rm m_keptRow m_likeGets m_likePrice m_ahead, cI aC m_kept 100 kq, cI aC m_kind 9 kf, cI aC m_figure 9 ff, cI aC m_weight 9 wf, cI aC m_got 8 pf, cI aC m_setting 5 stf] t.heap ∧ va_K (dC, dI) classes (TY aC) t ∧ va_D (va_A [oX12 g0 m_refused m_kind m_figure m_weight m_got m_setting (nI n) (nI sn) dn m_tape m_letter m_letterAt m_told tp mat stm m_kept him ki crs m_price m_offer m_gets m_yes m_buys m_ends m_carried m_row rm m_keptRow m_likeGets m_likePrice m_ahead, cI aC m_kept 100 kp, cI aC m_kind 9 kf, cI aC m_figure 9 ff, cI aC m_weight 9 wf, cI aC m_got 8 pf, cI aC m_setting 5 stf] sz) [oX12 g0 m_refused m_kind m_figure m_weight m_got m_setting (nI n) (nI sn) dn m_tape m_letter m_letterAt m_told tp mat stm m_kept 1 1 cu2 m_price m_offer m_gets m_yes m_buys m_ends m_carried m_row rm m_keptRow m_likeGets m_likePrice m_ahead, cI aC m_kept 100 kq, cI aC m_kind 9 kf, cI aC m_figure 9 ff, cI aC m_weight 9 wf, cI aC m_got 8 pf, cI aC m_setting 5 stf]) (va_A [oX12 g0 m_refused m_kind m_figure m_weight m_got m_setting (nI n) (nI sn) dn m_tape m_letter m_letterAt m_told tp mat stm m_kept him ki crs m_price m_offer m_gets m_yes m_buys m_ends m_carried m_row rm m_keptRow m_likeGets m_likePrice m_ahead, cI aC m_kept 100 kp, cI aC m_kind 9 kf, cI aC m_figure 9 ff, cI aC m_weight 9 wf, cI aC m_got 8 pf, cI aC m_setting 5 stf] sz)) 0 0 (va_A [oX12 g0 m_refused m_kind m_figure m_weight m_got m_setting (nI n) (nI sn) dn m_tape m_letter m_letterAt m_told tp mat stm m_kept him ki crs m_price m_offer m_gets m_yes m_buys m_ends m_carried m_row rm m_keptRow m_likeGets m_likePrice m_ahead, cI aC m_kept 100 kp, cI aC m_kind 9 kf, cI aC m_figure 9 ff, cI aC m_weight 9 wf, cI aC m_got 8 pf, cI aC m_setting 5 stf] sz) := by
  refine Met.ofW (cc := cX12_image) (maxL := 1) (ret := (some .int)) (by decide) rfl ?_
  intro p e s m args below meth c s₁ B hml hv
  obtain ⟨rfl, hsz, hP, hK, hD0, hN⟩ := hv
  have hx := B.exec
  have hb := B.bytes
  have hr := B.returns
  have hts0 := atoms_spec (ws := (wW yX12_image cX12_image 1 (some .int))) B.pre
  have hts : ∀ w9 ∈ lw_G, w9.before ([Value.ref g0] : List Value).toArray s = true := fun w9 h9 => hts0 w9 (List.mem_cons_of_mem _ h9)
  have hown : s.vm.findClass RX12 = some m.cls := findClass_of_methodNamed (x := yX12_image) B.named
  have hlocks := B.notSynchronized
  subst hsz
  have hD := hD0.self (sz := s.heap.size)
  generalize hAe : va_A [oX12 g0 m_refused m_kind m_figure m_weight m_got m_setting (nI n) (nI sn) dn m_tape m_letter m_letterAt m_told tp mat stm m_kept him ki crs m_price m_offer m_gets m_yes m_buys m_ends m_carried m_row rm m_keptRow m_likeGets m_likePrice m_ahead, cI aC m_kept 100 kp, cI aC m_kind 9 kf, cI aC m_figure 9 ff, cI aC m_weight 9 wf, cI aC m_got 8 pf, cI aC m_setting 5 stf] s.heap.size = A at hD ⊢
  have hA : ∀ q : Nat, s.heap.size ≤ q → A q := fun q h => by rw [← hAe]; exact Or.inr h
  obtain ⟨H, hHe⟩ : ∃ H : Heap, H = s.heap := ⟨_, rfl⟩
  have hS : va_S A s.heap H [] := by rw [hHe]; exact va_S.rf
  have hP : va_P (dC, dI) classes [oX12 g0 m_refused m_kind m_figure m_weight m_got m_setting (nI n) (nI sn) dn m_tape m_letter m_letterAt m_told tp mat stm m_kept him ki crs m_price m_offer m_gets m_yes m_buys m_ends m_carried m_row rm m_keptRow m_likeGets m_likePrice m_ahead, cI aC m_kept 100 kp, cI aC m_kind 9 kf, cI aC m_figure 9 ff, cI aC m_weight 9 wf, cI aC m_got 8 pf, cI aC m_setting 5 stf] H := by rw [hHe]; exact hP
  have hl := lv_entry ([Value.ref g0]) (n := 1) (Nat.le_of_ble_eq_true rfl)
  rw [lg_entry_eq]
  generalize (lg_sl ([Value.ref g0]) ++ List.replicate (1 - (lg_sl ([Value.ref g0])).length) Slot.unset).toArray = ls at hl ⊢
  have hl : lv_has ls 1 [(0, Value.ref g0)] := hl
  rw [← hHe]
  refine lv_aload_n hx hb dX12_image_0 rfl (lv_at hl 0 rfl) ?_
  refine lv_iconst (v := 1) hx hb dX12_image_1 (by decide) ?_
  refine va_put (D := (dC, dI)) (ci := 12) (v := Value.int 1) (ty := .boolean) (C := RX12) (T := TX12) (N := 33) hx hb hts inX12 tyX12 tyX12_ok nmX12 hown hK hP hD hS 0 rfl rfl 17 (by decide) (hts _ (gw kw_734 rfl)) (fun _ h9 => h9) rfl (by decide +kernel) rfl rfl (Nat.le_of_ble_eq_true rfl) dX12_image_2 (fun H locs hP hD hS => ?_)
  have hpd9 : PDx (dC, dI) classes A H [oX12 g0 m_refused m_kind m_figure m_weight m_got m_setting (nI n) (nI sn) dn m_tape m_letter m_letterAt m_told tp mat stm m_kept 1 ki crs m_price m_offer m_gets m_yes m_buys m_ends m_carried m_row rm m_keptRow m_likeGets m_likePrice m_ahead, cI aC m_kept 100 kp, cI aC m_kind 9 kf, cI aC m_figure 9 ff, cI aC m_weight 9 wf, cI aC m_got 8 pf, cI aC m_setting 5 stf] := ⟨hP, hD⟩
  have hP := hpd9.1
  have hD := hpd9.2
  clear hpd9
  refine lv_aload_n hx hb dX12_image_5 rfl (lv_at hl 0 rfl) ?_
  refine lv_iconst (v := 0) hx hb dX12_image_6 (by decide) ?_
  refine lv_iconst (v := 1) hx hb dX12_image_7 (by decide) ?_
  have hpd9 := pdf_N (cx := [oX12 g0 m_refused m_kind m_figure m_weight m_got m_setting (nI n) (nI sn) dn m_tape m_letter m_letterAt m_told tp mat stm m_kept 1 ki crs m_price m_offer m_gets m_yes m_buys m_ends m_carried m_row rm m_keptRow m_likeGets m_likePrice m_ahead, cI aC m_kept 100 kp, cI aC m_kind 9 kf, cI aC m_figure 9 ff, cI aC m_weight 9 wf, cI aC m_got 8 pf, cI aC m_setting 5 stf]) hP hD hS hA [0, 1, 2, 3, 4, 5, 6] (by decide) rfl
  have hPc := hpd9.1
  have hDc := hpd9.2.1
  have hFc := hpd9.2.2
  clear hpd9
  refine va_callv (va_runV (As := [Value.int 0, Value.int 1]) (rest := []) ⟨hx, hb, hml, hown, hts⟩ (c_X12_passesAll_k l dC dI aC H.size g0 m_refused m_kind m_figure m_weight m_got m_setting m_tape m_letter m_letterAt m_told m_kept m_price m_offer m_gets m_yes m_buys m_ends m_carried m_row m_keptRow m_likeGets m_likePrice m_ahead (nI n) (nI sn) dn tp mat stm 1 ki crs rm kp 0 kf ff wf pf stf (by omega)) ⟨(callB_of 2 hts (gG kw_850) rfl rfl rfl (hts _ (gw kw_13 rfl)) (hts _ (gw kw_847 rfl)) hd_X12_passesAll ⟨Nat.le_of_ble_eq_true rfl, Nat.le_of_ble_eq_true rfl⟩), (hts _ (gw kw_849 rfl)), (hts _ (gw ks_39 rfl))⟩ ⟨fb_std, va_recv (q := (RX12, TX12, 33)) hK hPc (ci := 12) (q0 := 0) rfl rfl, pre_std hPc hK hDc hN⟩ rfl rfl hl.1 rfl (lv_room (Nat.le_of_ble_eq_true rfl)) dX12_image_8 ⟨Nat.le_of_ble_eq_true rfl, Nat.le_of_ble_eq_true rfl⟩) hS (fun q _ h => hFc q h) hFc (fun u9 t9 H1 locs ht hvm hw_1 hB hz1 hk1 hS => ?_)
  obtain ⟨u_2, u_3⟩ := u9
  obtain ⟨hP1, hK1, hD1⟩ := hB
  rw [ht] at hP1
  clear hK1
  try dsimp only at hw_1
  have hpd9 : PDx (dC, dI) classes A H1 [oX12 g0 m_refused m_kind m_figure m_weight m_got m_setting (nI n) (nI sn) dn m_tape m_letter m_letterAt m_told tp mat stm m_kept 1 1 u_2 m_price m_offer m_gets m_yes m_buys m_ends m_carried m_row rm m_keptRow m_likeGets m_likePrice m_ahead, cI aC m_kept 100 u_3, cI aC m_kind 9 kf, cI aC m_figure 9 ff, cI aC m_weight 9 wf, cI aC m_got 8 pf, cI aC m_setting 5 stf] := jn_N (wr := []) hFc hk1 hP1 hD1 hP hD [0, 1, 2, 3, 4, 5, 6] [] rfl rfl (by decide) (by decide)
  have hP := hpd9.1
  have hD := hpd9.2
  clear hpd9
  generalize H1 = H at hP hS ⊢
  clear hPc hDc hFc hz1 hk1 hP1 hD1 ht hvm
  obtain ⟨hp1, hp2⟩ := hw_1
  refine lv_aload_n hx hb dX12_image_11 rfl (lv_at hl 0 rfl) ?_
  refine va_get (D := (dC, dI)) (ci := 12) (v := Value.int (nI n)) (C := RX12) (T := TX12) (N := 33) hx hb hts inX12 hown hK hP 0 rfl rfl 6 (by decide) (hts _ (gw kw_723 rfl)) (fun _ h9 => h9) rfl dX12_image_12 ?_
  have hpd9 := pd_N (cx := [oX12 g0 m_refused m_kind m_figure m_weight m_got m_setting (nI n) (nI sn) dn m_tape m_letter m_letterAt m_told tp mat stm m_kept 1 1 u_2 m_price m_offer m_gets m_yes m_buys m_ends m_carried m_row rm m_keptRow m_likeGets m_likePrice m_ahead, cI aC m_kept 100 u_3, cI aC m_kind 9 kf, cI aC m_figure 9 ff, cI aC m_weight 9 wf, cI aC m_got 8 pf, cI aC m_setting 5 stf]) hP hD [0, 1, 2, 3, 4, 5, 6] (by decide) rfl
  have hP9 := hpd9.1
  have hD9 := hpd9.2
  refine W.widen (k := 0) (n := 0) (by omega) (by omega) ?_
  exact W.iret (v := nI n) hx hb hr (fun t ht hW => ⟨⟨(nI n), (u_2, u_3), rfl, ⟨rfl, hp1, fun q hq => hp2 q (Or.inr hq)⟩, by rw [ht]; exact hP9, va_K.moved hW.alike hK, hD9⟩, hS.F ht⟩) hS.2.2 dX12_image_15

set_option maxHeartbeats 1000000 in
set_option maxRecDepth 100000 in
/-- X12_restore -/
theorem c_X12_restore (l : Launch) (dC : Nat → ClassId) (dI : Nat → Nat → Nat) (aC : Nat → ClassId) (sz : Nat) (g0 : Nat) (m_refused : Nat) (m_kind : Nat) (m_figure : Nat) (m_weight : Nat) (m_got : Nat) (m_setting : Nat) (m_tape : Nat) (m_letter : Nat) (m_letterAt : Nat) (m_told : Nat) (m_kept : Nat) (m_price : Nat) (m_offer : Nat) (m_gets : Nat) (m_yes : Nat) (m_buys : Nat) (m_ends : Nat) (m_carried : Nat) (m_row : Nat) (m_keptRow : Nat) (m_likeGets : Nat) (m_likePrice : Nat) (m_ahead : Nat) (tp : Int32) (mat : Int32) (stm : Int32) (him : Int32) (ki : Int32) (crs : Int32) (rm : Int32) (n : Nat) (sn : Nat) (dn : Int32) (kp : Nat → Int32) (kf : Nat → Int32) (ff : Nat → Int32) (wf : Nat → Int32) (pf : Nat → Int32) (stf : Nat → Int32) (mr : Nat → Int32)  : Met l yX12_restore (wW yX12_restore cX12_restore 1 (some .int)) ({ frames := 2, cells := 0, slots := 0, locals := 44 } : Room) (va_Pc [Value.ref g0] (fun U => U.heap.size = sz ∧ va_P (dC, dI) classes [oX12 g0 m_refused m_kind m_figure m_weight m_got m_setting (nI n) (nI sn) dn m_tape m_letter m_letterAt m_told tp mat stm m_kept him ki crs m_price m_offer m_gets m_yes m_buys m_ends m_carried m_row rm m_keptRow m_likeGets m_likePrice m_ahead, cI aC m_kept 100 kp, cI aC m_kind 9 kf, cI aC m_figure 9 ff, cI aC m_weight 9 wf, cI aC m_got 8 pf, cI aC m_setting 5 stf, cI aC m_refused 7 mr] U.heap ∧ va_K (dC, dI) classes (TY aC) U ∧ va_D (fun _ => True) [oX12 g0 m_refused m_kind m_figure m_weight m_got m_setting (nI n) (nI sn) dn m_tape m_letter m_letterAt m_told tp mat stm m_kept him ki crs m_price m_offer m_gets m_yes m_buys m_ends m_carried m_row rm m_keptRow m_likeGets m_likePrice m_ahead, cI aC m_kept 100 kp, cI aC m_kind 9 kf, cI aC m_figure 9 ff, cI aC m_weight 9 wf, cI aC m_got 8 pf, cI aC m_setting 5 stf, cI aC m_refused 7 mr] ∧ NX U)) (va_Qi (fun (r : Int32) (u : Int32 × Int32 × Int32 × Int32 × Int32 × (Nat → Int32) × (Nat → Int32) × (Nat → Int32) × (Nat → Int32) × (Nat → Int32) × (Nat → Int32)) => match u with | (cu2, ki2, men2, msy2, mdn2, kf2, ff2, wf2, pf2, stf2, mr2) => (him = 0 → r = -3 ∧ men2 = nI n ∧ msy2 = nI sn ∧ mdn2 = dn ∧ kf2 = kf ∧ ff2 = ff ∧ wf2 = wf ∧ pf2 = pf ∧ stf2 = stf) ∧ (him ≠ 0 → r = men2 ∧ PK 0 kp kf2 ff2 wf2 pf2 stf2 men2 msy2 mdn2)) (fun (u : Int32 × Int32 × Int32 × Int32 × Int32 × (Nat → Int32) × (Nat → Int32) × (Nat → Int32) × (Nat → Int32) × (Nat → Int32) × (Nat → Int32)) (t : State) => match u with | (cu2, ki2, men2, msy2, mdn2, kf2, ff2, wf2, pf2, stf2, mr2) => va_P (dC, dI) classes [oX12 g0 m_refused m_kind m_figure m_weight m_got m_setting men2 msy2 mdn2 m_tape m_letter m_letterAt m_told tp mat stm m_kept him ki2 cu2 m_price m_offer m_gets m_yes m_buys m_ends m_carried m_row rm m_keptRow m_likeGets m_likePrice m_ahead, cI aC m_kept 100 kp, cI aC m_kind 9 kf2, cI aC m_figure 9 ff2, cI aC m_weight 9 wf2, cI aC m_got 8 pf2, cI aC m_setting 5 stf2, cI aC m_refused 7 mr2] t.heap ∧ va_K (dC, dI) classes (TY aC) t ∧ va_D (va_A [oX12 g0 m_refused m_kind m_figure m_weight m_got m_setting (nI n) (nI sn) dn m_tape m_letter m_letterAt m_told tp mat stm m_kept him ki crs m_price m_offer m_gets m_yes m_buys m_ends m_carried m_row rm m_keptRow m_likeGets m_likePrice m_ahead, cI aC m_kept 100 kp, cI aC m_kind 9 kf, cI aC m_figure 9 ff, cI aC m_weight 9 wf, cI aC m_got 8 pf, cI aC m_setting 5 stf, cI aC m_refused 7 mr] sz) [oX12 g0 m_refused m_kind m_figure m_weight m_got m_setting men2 msy2 mdn2 m_tape m_letter m_letterAt m_told tp mat stm m_kept him ki2 cu2 m_price m_offer m_gets m_yes m_buys m_ends m_carried m_row rm m_keptRow m_likeGets m_likePrice m_ahead, cI aC m_kept 100 kp, cI aC m_kind 9 kf2, cI aC m_figure 9 ff2, cI aC m_weight 9 wf2, cI aC m_got 8 pf2, cI aC m_setting 5 stf2, cI aC m_refused 7 mr2]) (va_A [oX12 g0 m_refused m_kind m_figure m_weight m_got m_setting (nI n) (nI sn) dn m_tape m_letter m_letterAt m_told tp mat stm m_kept him ki crs m_price m_offer m_gets m_yes m_buys m_ends m_carried m_row rm m_keptRow m_likeGets m_likePrice m_ahead, cI aC m_kept 100 kp, cI aC m_kind 9 kf, cI aC m_figure 9 ff, cI aC m_weight 9 wf, cI aC m_got 8 pf, cI aC m_setting 5 stf, cI aC m_refused 7 mr] sz)) 0 0 (va_A [oX12 g0 m_refused m_kind m_figure m_weight m_got m_setting (nI n) (nI sn) dn m_tape m_letter m_letterAt m_told tp mat stm m_kept him ki crs m_price m_offer m_gets m_yes m_buys m_ends m_carried m_row rm m_keptRow m_likeGets m_likePrice m_ahead, cI aC m_kept 100 kp, cI aC m_kind 9 kf, cI aC m_figure 9 ff, cI aC m_weight 9 wf, cI aC m_got 8 pf, cI aC m_setting 5 stf, cI aC m_refused 7 mr] sz) := by
  refine Met.ofW (cc := cX12_restore) (maxL := 1) (ret := (some .int)) (by decide) rfl ?_
  intro p e s m args below meth c s₁ B hml hv
  obtain ⟨rfl, hsz, hP, hK, hD0, hN⟩ := hv
  have hx := B.exec
  have hb := B.bytes
  have hr := B.returns
  have hts0 := atoms_spec (ws := (wW yX12_restore cX12_restore 1 (some .int))) B.pre
  have hts : ∀ w9 ∈ lw_G, w9.before ([Value.ref g0] : List Value).toArray s = true := fun w9 h9 => hts0 w9 (List.mem_cons_of_mem _ h9)
  have hown : s.vm.findClass RX12 = some m.cls := findClass_of_methodNamed (x := yX12_restore) B.named
  have hlocks := B.notSynchronized
  subst hsz
  have hD := hD0.self (sz := s.heap.size)
  generalize hAe : va_A [oX12 g0 m_refused m_kind m_figure m_weight m_got m_setting (nI n) (nI sn) dn m_tape m_letter m_letterAt m_told tp mat stm m_kept him ki crs m_price m_offer m_gets m_yes m_buys m_ends m_carried m_row rm m_keptRow m_likeGets m_likePrice m_ahead, cI aC m_kept 100 kp, cI aC m_kind 9 kf, cI aC m_figure 9 ff, cI aC m_weight 9 wf, cI aC m_got 8 pf, cI aC m_setting 5 stf, cI aC m_refused 7 mr] s.heap.size = A at hD ⊢
  have hA : ∀ q : Nat, s.heap.size ≤ q → A q := fun q h => by rw [← hAe]; exact Or.inr h
  obtain ⟨H, hHe⟩ : ∃ H : Heap, H = s.heap := ⟨_, rfl⟩
  have hS : va_S A s.heap H [] := by rw [hHe]; exact va_S.rf
  have hP : va_P (dC, dI) classes [oX12 g0 m_refused m_kind m_figure m_weight m_got m_setting (nI n) (nI sn) dn m_tape m_letter m_letterAt m_told tp mat stm m_kept him ki crs m_price m_offer m_gets m_yes m_buys m_ends m_carried m_row rm m_keptRow m_likeGets m_likePrice m_ahead, cI aC m_kept 100 kp, cI aC m_kind 9 kf, cI aC m_figure 9 ff, cI aC m_weight 9 wf, cI aC m_got 8 pf, cI aC m_setting 5 stf, cI aC m_refused 7 mr] H := by rw [hHe]; exact hP
  have hl := lv_entry ([Value.ref g0]) (n := 1) (Nat.le_of_ble_eq_true rfl)
  rw [lg_entry_eq]
  generalize (lg_sl ([Value.ref g0]) ++ List.replicate (1 - (lg_sl ([Value.ref g0])).length) Slot.unset).toArray = ls at hl ⊢
  have hl : lv_has ls 1 [(0, Value.ref g0)] := hl
  rw [← hHe]
  refine lv_aload_n hx hb dX12_restore_0 rfl (lv_at hl 0 rfl) ?_
  refine va_get (D := (dC, dI)) (ci := 12) (v := Value.int him) (C := RX12) (T := TX12) (N := 33) hx hb hts inX12 hown hK hP 0 rfl rfl 17 (by decide) (hts _ (gw kw_734 rfl)) (fun _ h9 => h9) rfl dX12_restore_1 ?_
  refine lv_if_ne (tgt := 14) hx hb dX12_restore_4 (by decide) (fun c_1 => ?_) (fun c_1 => ?_)
  · refine lv_aload_n hx hb dX12_restore_14 rfl (lv_at hl 0 rfl) ?_
    refine lv_iconst (v := 0) hx hb dX12_restore_15 (by decide) ?_
    refine lv_iconst (v := 0) hx hb dX12_restore_16 (by decide) ?_
    have hpd9 := pdf_N (cx := [oX12 g0 m_refused m_kind m_figure m_weight m_got m_setting (nI n) (nI sn) dn m_tape m_letter m_letterAt m_told tp mat stm m_kept him ki crs m_price m_offer m_gets m_yes m_buys m_ends m_carried m_row rm m_keptRow m_likeGets m_likePrice m_ahead, cI aC m_kept 100 kp, cI aC m_kind 9 kf, cI aC m_figure 9 ff, cI aC m_weight 9 wf, cI aC m_got 8 pf, cI aC m_setting 5 stf]) hP hD hS hA [0, 1, 2, 3, 4, 5, 6] (by decide) rfl
    have hPc := hpd9.1
    have hDc := hpd9.2.1
    have hFc := hpd9.2.2
    clear hpd9
    refine va_callv (va_runV (As := [Value.int 0, Value.int 0]) (rest := []) ⟨hx, hb, hml, hown, hts⟩ (c_X12_passesAll_l l dC dI aC H.size g0 m_refused m_kind m_figure m_weight m_got m_setting m_tape m_letter m_letterAt m_told m_kept m_price m_offer m_gets m_yes m_buys m_ends m_carried m_row m_keptRow m_likeGets m_likePrice m_ahead (nI n) (nI sn) dn tp mat stm him ki crs rm kp 0 kf ff wf pf stf (by omega)) ⟨(callB_of 2 hts (gG kw_850) rfl rfl rfl (hts _ (gw kw_13 rfl)) (hts _ (gw kw_847 rfl)) hd_X12_passesAll ⟨Nat.le_of_ble_eq_true rfl, Nat.le_of_ble_eq_true rfl⟩), (hts _ (gw kw_849 rfl)), (hts _ (gw ks_39 rfl))⟩ ⟨fb_std, va_recv (q := (RX12, TX12, 33)) hK hPc (ci := 12) (q0 := 0) rfl rfl, pre_std hPc hK hDc hN⟩ rfl rfl hl.1 rfl (lv_room (Nat.le_of_ble_eq_true rfl)) dX12_restore_17 ⟨Nat.le_of_ble_eq_true rfl, Nat.le_of_ble_eq_true rfl⟩) hS (fun q _ h => hFc q h) hFc (fun u9 t9 H1 locs ht hvm hw_2 hB hz1 hk1 hS => ?_)
    obtain ⟨u_3, u_4, u_5, u_6, u_7, u_8, u_9, u_10, u_11⟩ := u9
    obtain ⟨hP1, hK1, hD1⟩ := hB
    rw [ht] at hP1
    clear hK1
    try dsimp only at hw_2
    have hpd9 : PDx (dC, dI) classes A H1 [cI aC m_refused 7 mr, oX12 g0 m_refused m_kind m_figure m_weight m_got m_setting u_4 u_5 u_6 m_tape m_letter m_letterAt m_told tp mat stm m_kept him 0 u_3 m_price m_offer m_gets m_yes m_buys m_ends m_carried m_row rm m_keptRow m_likeGets m_likePrice m_ahead, cI aC m_kept 100 kp, cI aC m_kind 9 u_7, cI aC m_figure 9 u_8, cI aC m_weight 9 u_9, cI aC m_got 8 u_10, cI aC m_setting 5 u_11] := jn_N (wr := [cI aC m_refused 7 mr]) hFc hk1 hP1 hD1 hP hD [0, 1, 2, 3, 4, 5, 6] [7] rfl rfl (by decide) (by decide)
    have hP := hpd9.1
    have hD := hpd9.2
    clear hpd9
    generalize H1 = H at hP hS ⊢
    clear hPc hDc hFc hz1 hk1 hP1 hD1 ht hvm
    have hp1 := hw_2
    refine lv_aload_n hx hb dX12_restore_20 rfl (lv_at hl 0 rfl) ?_
    refine va_get (D := (dC, dI)) (ci := 12) (v := Value.int u_4) (C := RX12) (T := TX12) (N := 33) hx hb hts inX12 hown hK hP 1 rfl rfl 6 (by decide) (hts _ (gw kw_723 rfl)) (fun _ h9 => h9) rfl dX12_restore_21 ?_
    have hpd9 := pd_N (cx := [oX12 g0 m_refused m_kind m_figure m_weight m_got m_setting u_4 u_5 u_6 m_tape m_letter m_letterAt m_told tp mat stm m_kept him 0 u_3 m_price m_offer m_gets m_yes m_buys m_ends m_carried m_row rm m_keptRow m_likeGets m_likePrice m_ahead, cI aC m_kept 100 kp, cI aC m_kind 9 u_7, cI aC m_figure 9 u_8, cI aC m_weight 9 u_9, cI aC m_got 8 u_10, cI aC m_setting 5 u_11, cI aC m_refused 7 mr]) hP hD [1, 2, 3, 4, 5, 6, 7, 0] (by decide) rfl
    have hP9 := hpd9.1
    have hD9 := hpd9.2
    refine W.widen (k := 0) (n := 0) (by omega) (by omega) ?_
    exact W.iret (v := u_4) hx hb hr (fun t ht hW => ⟨⟨u_4, (u_3, 0, u_4, u_5, u_6, u_7, u_8, u_9, u_10, u_11, mr), rfl, ⟨fun q => absurd q c_1, fun _ => ⟨rfl, hp1⟩⟩, by rw [ht]; exact hP9, va_K.moved hW.alike hK, hD9⟩, hS.F ht⟩) hS.2.2 dX12_restore_24
  · refine lv_aload_n hx hb dX12_restore_7 rfl (lv_at hl 0 rfl) ?_
    refine lv_bipush (v := -3) hx hb dX12_restore_8 (by decide) ?_
    have hpd9 := pdf_N (cx := [oX12 g0 m_refused m_kind m_figure m_weight m_got m_setting (nI n) (nI sn) dn m_tape m_letter m_letterAt m_told tp mat stm m_kept him ki crs m_price m_offer m_gets m_yes m_buys m_ends m_carried m_row rm m_keptRow m_likeGets m_likePrice m_ahead, cI aC m_refused 7 mr]) hP hD hS hA [0, 7] (by decide) rfl
    have hPc := hpd9.1
    have hDc := hpd9.2.1
    have hFc := hpd9.2.2
    clear hpd9
    refine va_calli (va_runV (As := [Value.int (-3)]) (rest := []) ⟨hx, hb, hml, hown, hts⟩ (c_X12_no l dC dI aC H.size g0 m_refused m_kind m_figure m_weight m_got m_setting m_tape m_letter m_letterAt m_told m_kept m_price m_offer m_gets m_yes m_buys m_ends m_carried m_row m_keptRow m_likeGets m_likePrice m_ahead (nI n) (nI sn) dn tp mat stm him ki crs rm (-3) 3 mr (by decide) (by unfold vp_in; decide)) ⟨(callB_of 1 hts (gG kw_827) rfl rfl rfl (hts _ (gw kw_13 rfl)) (hts _ (gw kw_824 rfl)) hd_X12_no ⟨Nat.le_of_ble_eq_true rfl, Nat.le_of_ble_eq_true rfl⟩), (hts _ (gw kw_826 rfl)), (hts _ (gw ks_35 rfl))⟩ ⟨fb_std, va_recv (q := (RX12, TX12, 33)) hK hPc (ci := 12) (q0 := 0) rfl rfl, pre_std hPc hK hDc hN⟩ rfl rfl hl.1 rfl (lv_room (Nat.le_of_ble_eq_true rfl)) dX12_restore_10 ⟨Nat.le_of_ble_eq_true rfl, Nat.le_of_ble_eq_true rfl⟩) hS (fun q _ h => hFc q h) hFc (fun x_12 u9 t9 H1 locs ht hvm hw_12 hB hz1 hk1 hS => ?_)
    obtain ⟨u_13, rfl⟩ : ∃ z, z = u9 := ⟨_, rfl⟩
    obtain ⟨hP1, hK1, hD1⟩ := hB
    rw [ht] at hP1
    clear hK1
    try dsimp only at hw_12
    have hpd9 : PDx (dC, dI) classes A H1 [cI aC m_kept 100 kp, cI aC m_kind 9 kf, cI aC m_figure 9 ff, cI aC m_weight 9 wf, cI aC m_got 8 pf, cI aC m_setting 5 stf, oX12 g0 m_refused m_kind m_figure m_weight m_got m_setting (nI n) (nI sn) dn m_tape m_letter m_letterAt m_told tp mat stm m_kept him ki crs m_price m_offer m_gets m_yes m_buys m_ends m_carried m_row rm m_keptRow m_likeGets m_likePrice m_ahead, cI aC m_refused 7 u_13] := jn_N (wr := [cI aC m_kept 100 kp, cI aC m_kind 9 kf, cI aC m_figure 9 ff, cI aC m_weight 9 wf, cI aC m_got 8 pf, cI aC m_setting 5 stf]) hFc hk1 hP1 hD1 hP hD [0, 7] [1, 2, 3, 4, 5, 6] rfl rfl (by decide) (by decide)
    have hP := hpd9.1
    have hD := hpd9.2
    clear hpd9
    generalize H1 = H at hP hS ⊢
    clear hPc hDc hFc hz1 hk1 hP1 hD1 ht hvm
    obtain ⟨hv9, -⟩ := hw_12
    have hpd9 := pd_N (cx := [oX12 g0 m_refused m_kind m_figure m_weight m_got m_setting (nI n) (nI sn) dn m_tape m_letter m_letterAt m_told tp mat stm m_kept him ki crs m_price m_offer m_gets m_yes m_buys m_ends m_carried m_row rm m_keptRow m_likeGets m_likePrice m_ahead, cI aC m_kept 100 kp, cI aC m_kind 9 kf, cI aC m_figure 9 ff, cI aC m_weight 9 wf, cI aC m_got 8 pf, cI aC m_setting 5 stf, cI aC m_refused 7 u_13]) hP hD [6, 0, 1, 2, 3, 4, 5, 7] (by decide) rfl
    have hP9 := hpd9.1
    have hD9 := hpd9.2
    refine W.widen (k := 0) (n := 0) (by omega) (by omega) ?_
    exact W.iret (v := x_12) hx hb hr (fun t ht hW => ⟨⟨x_12, (crs, ki, (nI n), (nI sn), dn, kf, ff, wf, pf, stf, u_13), rfl, ⟨fun _ => ⟨hv9, rfl, rfl, rfl, rfl, rfl, rfl, rfl, rfl⟩, fun q => absurd c_1 q⟩, by rw [ht]; exact hP9, va_K.moved hW.alike hK, hD9⟩, hS.F ht⟩) hS.2.2 dX12_restore_13

set_option maxHeartbeats 1000000 in
set_option maxRecDepth 100000 in
/-- X12_man -/
theorem c_X12_man (l : Launch) (dC : Nat → ClassId) (dI : Nat → Nat → Nat) (aC : Nat → ClassId) (sz : Nat) (g0 : Nat) (m_refused : Nat) (m_kind : Nat) (m_figure : Nat) (m_weight : Nat) (m_got : Nat) (m_setting : Nat) (m_tape : Nat) (m_letter : Nat) (m_letterAt : Nat) (m_told : Nat) (m_kept : Nat) (m_price : Nat) (m_offer : Nat) (m_gets : Nat) (m_yes : Nat) (m_buys : Nat) (m_ends : Nat) (m_carried : Nat) (m_row : Nat) (m_keptRow : Nat) (m_likeGets : Nat) (m_likePrice : Nat) (m_ahead : Nat) (tp : Int32) (mat : Int32) (stm : Int32) (him : Int32) (ki : Int32) (crs : Int32) (rm : Int32) (n : Nat) (sn : Nat) (dn : Int32) (kf : Nat → Int32) (ff : Nat → Int32) (wf : Nat → Int32) (stf : Nat → Int32) (K : Nat → Nat) (F : Nat → Nat) (W0 : Nat → Nat) (S5 : Nat → Nat) (mr : Nat → Int32) (i : Int32) (w : Int32) (hev : EVS n sn dn K F W0 S5 kf ff wf stf) : Met l yX12_man (wW yX12_man cX12_man 3 (some .int)) ({ frames := 1, cells := 0, slots := 0, locals := 22 } : Room) (va_Pc [Value.ref g0, Value.int i, Value.int w] (fun U => U.heap.size = sz ∧ va_P (dC, dI) classes [oX12 g0 m_refused m_kind m_figure m_weight m_got m_setting (nI n) (nI sn) dn m_tape m_letter m_letterAt m_told tp mat stm m_kept him ki crs m_price m_offer m_gets m_yes m_buys m_ends m_carried m_row rm m_keptRow m_likeGets m_likePrice m_ahead, cI aC m_kind 9 kf, cI aC m_figure 9 ff, cI aC m_weight 9 wf, cI aC m_refused 7 mr] U.heap ∧ va_K (dC, dI) classes (TY aC) U ∧ va_D (fun _ => True) [oX12 g0 m_refused m_kind m_figure m_weight m_got m_setting (nI n) (nI sn) dn m_tape m_letter m_letterAt m_told tp mat stm m_kept him ki crs m_price m_offer m_gets m_yes m_buys m_ends m_carried m_row rm m_keptRow m_likeGets m_likePrice m_ahead, cI aC m_kind 9 kf, cI aC m_figure 9 ff, cI aC m_weight 9 wf, cI aC m_refused 7 mr] ∧ NX U)) (va_Qi (fun (r : Int32) (mr2 : Nat → Int32) => r = rMan n K F W0 i w) (fun (mr2 : Nat → Int32) (t : State) => va_P (dC, dI) classes [oX12 g0 m_refused m_kind m_figure m_weight m_got m_setting (nI n) (nI sn) dn m_tape m_letter m_letterAt m_told tp mat stm m_kept him ki crs m_price m_offer m_gets m_yes m_buys m_ends m_carried m_row rm m_keptRow m_likeGets m_likePrice m_ahead, cI aC m_kind 9 kf, cI aC m_figure 9 ff, cI aC m_weight 9 wf, cI aC m_refused 7 mr2] t.heap ∧ va_K (dC, dI) classes (TY aC) t ∧ va_D (va_A [oX12 g0 m_refused m_kind m_figure m_weight m_got m_setting (nI n) (nI sn) dn m_tape m_letter m_letterAt m_told tp mat stm m_kept him ki crs m_price m_offer m_gets m_yes m_buys m_ends m_carried m_row rm m_keptRow m_likeGets m_likePrice m_ahead, cI aC m_kind 9 kf, cI aC m_figure 9 ff, cI aC m_weight 9 wf, cI aC m_refused 7 mr] sz) [oX12 g0 m_refused m_kind m_figure m_weight m_got m_setting (nI n) (nI sn) dn m_tape m_letter m_letterAt m_told tp mat stm m_kept him ki crs m_price m_offer m_gets m_yes m_buys m_ends m_carried m_row rm m_keptRow m_likeGets m_likePrice m_ahead, cI aC m_kind 9 kf, cI aC m_figure 9 ff, cI aC m_weight 9 wf, cI aC m_refused 7 mr2]) (va_A [oX12 g0 m_refused m_kind m_figure m_weight m_got m_setting (nI n) (nI sn) dn m_tape m_letter m_letterAt m_told tp mat stm m_kept him ki crs m_price m_offer m_gets m_yes m_buys m_ends m_carried m_row rm m_keptRow m_likeGets m_likePrice m_ahead, cI aC m_kind 9 kf, cI aC m_figure 9 ff, cI aC m_weight 9 wf, cI aC m_refused 7 mr] sz)) 0 0 (va_A [oX12 g0 m_refused m_kind m_figure m_weight m_got m_setting (nI n) (nI sn) dn m_tape m_letter m_letterAt m_told tp mat stm m_kept him ki crs m_price m_offer m_gets m_yes m_buys m_ends m_carried m_row rm m_keptRow m_likeGets m_likePrice m_ahead, cI aC m_kind 9 kf, cI aC m_figure 9 ff, cI aC m_weight 9 wf, cI aC m_refused 7 mr] sz) := by
  refine Met.ofW (cc := cX12_man) (maxL := 3) (ret := (some .int)) (by decide) rfl ?_
  intro p e s m args below meth c s₁ B hml hv
  obtain ⟨rfl, hsz, hP, hK, hD0, hN⟩ := hv
  have hx := B.exec
  have hb := B.bytes
  have hr := B.returns
  have hts0 := atoms_spec (ws := (wW yX12_man cX12_man 3 (some .int))) B.pre
  have hts : ∀ w9 ∈ lw_G, w9.before ([Value.ref g0, Value.int i, Value.int w] : List Value).toArray s = true := fun w9 h9 => hts0 w9 (List.mem_cons_of_mem _ h9)
  have hown : s.vm.findClass RX12 = some m.cls := findClass_of_methodNamed (x := yX12_man) B.named
  have hlocks := B.notSynchronized
  subst hsz
  have hD := hD0.self (sz := s.heap.size)
  generalize hAe : va_A [oX12 g0 m_refused m_kind m_figure m_weight m_got m_setting (nI n) (nI sn) dn m_tape m_letter m_letterAt m_told tp mat stm m_kept him ki crs m_price m_offer m_gets m_yes m_buys m_ends m_carried m_row rm m_keptRow m_likeGets m_likePrice m_ahead, cI aC m_kind 9 kf, cI aC m_figure 9 ff, cI aC m_weight 9 wf, cI aC m_refused 7 mr] s.heap.size = A at hD ⊢
  have hA : ∀ q : Nat, s.heap.size ≤ q → A q := fun q h => by rw [← hAe]; exact Or.inr h
  obtain ⟨H, hHe⟩ : ∃ H : Heap, H = s.heap := ⟨_, rfl⟩
  have hS : va_S A s.heap H [] := by rw [hHe]; exact va_S.rf
  have hP : va_P (dC, dI) classes [oX12 g0 m_refused m_kind m_figure m_weight m_got m_setting (nI n) (nI sn) dn m_tape m_letter m_letterAt m_told tp mat stm m_kept him ki crs m_price m_offer m_gets m_yes m_buys m_ends m_carried m_row rm m_keptRow m_likeGets m_likePrice m_ahead, cI aC m_kind 9 kf, cI aC m_figure 9 ff, cI aC m_weight 9 wf, cI aC m_refused 7 mr] H := by rw [hHe]; exact hP
  have hl := lv_entry ([Value.ref g0, Value.int i, Value.int w]) (n := 3) (Nat.le_of_ble_eq_true rfl)
  rw [lg_entry_eq]
  generalize (lg_sl ([Value.ref g0, Value.int i, Value.int w]) ++ List.replicate (3 - (lg_sl ([Value.ref g0, Value.int i, Value.int w])).length) Slot.unset).toArray = ls at hl ⊢
  have hl : lv_has ls 3 [(0, Value.ref g0), (1, Value.int i), (2, Value.int w)] := hl
  rw [← hHe]
  have hn8 := EVS_n hev
  refine lv_aload_n hx hb dX12_man_0 rfl (lv_at hl 0 rfl) ?_
  refine lv_iload_n hx hb dX12_man_1 rfl (lv_at hl 1 rfl) ?_
  have hpd9 := pdf_N (cx := [oX12 g0 m_refused m_kind m_figure m_weight m_got m_setting (nI n) (nI sn) dn m_tape m_letter m_letterAt m_told tp mat stm m_kept him ki crs m_price m_offer m_gets m_yes m_buys m_ends m_carried m_row rm m_keptRow m_likeGets m_likePrice m_ahead]) hP hD hS hA [0] (by decide) rfl
  have hPc := hpd9.1
  have hDc := hpd9.2.1
  have hFc := hpd9.2.2
  clear hpd9
  refine va_calli (va_runV (As := [Value.int i]) (rest := []) ⟨hx, hb, hml, hown, hts⟩ (c_X12_isMan l dC dI aC H.size g0 m_refused m_kind m_figure m_weight m_got m_setting m_tape m_letter m_letterAt m_told m_kept m_price m_offer m_gets m_yes m_buys m_ends m_carried m_row m_keptRow m_likeGets m_likePrice m_ahead (nI n) (nI sn) dn tp mat stm him ki crs rm i ) ⟨(callB_of 1 hts (gG kw_878) rfl rfl rfl (hts _ (gw kw_13 rfl)) (hts _ (gw kw_875 rfl)) hd_X12_isMan ⟨Nat.le_of_ble_eq_true rfl, Nat.le_of_ble_eq_true rfl⟩), (hts _ (gw kw_877 rfl)), (hts _ (gw ks_43 rfl))⟩ ⟨fb_std, va_recv (q := (RX12, TX12, 33)) hK hPc (ci := 12) (q0 := 0) rfl rfl, pre_std hPc hK hDc hN⟩ rfl rfl hl.1 rfl (lv_room (Nat.le_of_ble_eq_true rfl)) dX12_man_2 ⟨Nat.le_of_ble_eq_true rfl, Nat.le_of_ble_eq_true rfl⟩) hS (fun q _ h => hFc q h) hFc (fun x_1 u9 t9 H1 locs ht hvm hw_1 hB hz1 hk1 hS => ?_)
  obtain ⟨hP1, hK1, hD1⟩ := hB
  rw [ht] at hP1
  clear hK1
  try dsimp only at hw_1
  have hpd9 : PDx (dC, dI) classes A H1 [cI aC m_kind 9 kf, cI aC m_figure 9 ff, cI aC m_weight 9 wf, cI aC m_refused 7 mr, oX12 g0 m_refused m_kind m_figure m_weight m_got m_setting (nI n) (nI sn) dn m_tape m_letter m_letterAt m_told tp mat stm m_kept him ki crs m_price m_offer m_gets m_yes m_buys m_ends m_carried m_row rm m_keptRow m_likeGets m_likePrice m_ahead] := jn_N (wr := [cI aC m_kind 9 kf, cI aC m_figure 9 ff, cI aC m_weight 9 wf, cI aC m_refused 7 mr]) hFc hk1 hP1 hD1 hP hD [0] [1, 2, 3, 4] rfl rfl (by decide) (by decide)
  have hP := hpd9.1
  have hD := hpd9.2
  clear hpd9
  generalize H1 = H at hP hS ⊢
  clear hPc hDc hFc hz1 hk1 hP1 hD1 ht hvm
  have hz_2 := hw_1
  refine lv_if_ne (tgt := 14) hx hb dX12_man_5 (by decide) (fun c_2 => ?_) (fun c_2 => ?_)
  · obtain ⟨a, ha8, ha9⟩ := OKI_ix hn8 (has_y hz_2 c_2)
    have h9 : i = nI a := ha9
    subst h9
    have he := hev.1.2.2.2 a ha8
    refine lv_iload_n hx hb dX12_man_14 rfl (lv_at hl 2 rfl) ?_
    refine lv_iconst (v := 0) hx hb dX12_man_15 (by decide) ?_
    refine lv_iconst (v := 2) hx hb dX12_man_16 (by decide) ?_
    have hpd9 := pdf_N (cx := []) hP hD hS hA [] (by decide) rfl
    have hPc := hpd9.1
    have hDc := hpd9.2.1
    have hFc := hpd9.2.2
    clear hpd9
    refine va_calli (va_runS (As := [Value.int w, Value.int 0, Value.int 2]) (rest := []) ⟨hx, hb, hml, hown, hts⟩ (c_X12_isIn l dC dI aC H.size w 0 2 ) ⟨(callB_of 3 hts (gG kw_846) rfl rfl rfl (hts _ (gw kw_13 rfl)) (hts _ (gw kw_844 rfl)) hd_X12_isIn ⟨Nat.le_of_ble_eq_true rfl, Nat.le_of_ble_eq_true rfl⟩), (hts _ (gw kw_845 rfl))⟩ ⟨fb_std, pre_std hPc hK hDc hN⟩ rfl rfl hl.1 rfl (lv_room (Nat.le_of_ble_eq_true rfl)) dX12_man_17 ⟨Nat.le_of_ble_eq_true rfl, Nat.le_of_ble_eq_true rfl⟩) hS (fun q _ h => hFc q h) hFc (fun x_3 u9 t9 H1 locs ht hvm hw_3 hB hz1 hk1 hS => ?_)
    obtain ⟨hP1, hK1, hD1⟩ := hB
    rw [ht] at hP1
    clear hK1
    try dsimp only at hw_3
    have hpd9 : PDx (dC, dI) classes A H1 [cI aC m_kind 9 kf, cI aC m_figure 9 ff, cI aC m_weight 9 wf, cI aC m_refused 7 mr, oX12 g0 m_refused m_kind m_figure m_weight m_got m_setting (nI n) (nI sn) dn m_tape m_letter m_letterAt m_told tp mat stm m_kept him ki crs m_price m_offer m_gets m_yes m_buys m_ends m_carried m_row rm m_keptRow m_likeGets m_likePrice m_ahead] := jn_N (wr := [cI aC m_kind 9 kf, cI aC m_figure 9 ff, cI aC m_weight 9 wf, cI aC m_refused 7 mr, oX12 g0 m_refused m_kind m_figure m_weight m_got m_setting (nI n) (nI sn) dn m_tape m_letter m_letterAt m_told tp mat stm m_kept him ki crs m_price m_offer m_gets m_yes m_buys m_ends m_carried m_row rm m_keptRow m_likeGets m_likePrice m_ahead]) hFc hk1 hP1 hD1 hP hD [] [0, 1, 2, 3, 4] rfl rfl (by decide) (by decide)
    have hP := hpd9.1
    have hD := hpd9.2
    clear hpd9
    generalize H1 = H at hP hS ⊢
    clear hPc hDc hFc hz1 hk1 hP1 hD1 ht hvm
    have hz_17 := hw_3
    refine lv_if_ne (tgt := 30) hx hb dX12_man_20 (by decide) (fun c_4 => ?_) (fun c_4 => ?_)
    · refine lv_iload_n hx hb dX12_man_30 rfl (lv_at hl 2 rfl) ?_
      refine lv_if_ne (tgt := 43) hx hb dX12_man_31 (by decide) (fun c_5 => ?_) (fun c_5 => ?_)
      · refine lv_iload_n hx hb dX12_man_43 rfl (lv_at hl 2 rfl) ?_
        refine lv_iconst (v := 1) hx hb dX12_man_44 (by decide) ?_
        refine lv_icmp_ne (tgt := 57) hx hb dX12_man_45 (by decide) (fun c_6 => ?_) (fun c_6 => ?_)
        · refine lv_aload_n hx hb dX12_man_57 rfl (lv_at hl 0 rfl) ?_
          refine va_get (D := (dC, dI)) (ci := 12) (v := Value.ref m_weight) (C := RX12) (T := TX12) (N := 33) hx hb hts inX12 hown hK hP 4 rfl rfl 3 (by decide) (hts _ (gw kw_720 rfl)) (fun _ h9 => h9) rfl dX12_man_58 ?_
          refine lv_iload_n hx hb dX12_man_61 rfl (lv_at hl 1 rfl) ?_
          have h_7 : vp_in (nI a) 9 := by first | exact vp_in_nI (by omega) (by omega) | (unfold vp_in; decide) | (subst_vars; first | (unfold vp_in; decide) | exact vp_in_nI (by omega) (by omega))
          refine va_iald hx hb hK hP 2 0 rfl rfl h_7 dX12_man_62 ?_
          refine lv_topi (fun x_8 e_8 => ?_)
          have hpd9 := pd_N (cx := [oX12 g0 m_refused m_kind m_figure m_weight m_got m_setting (nI n) (nI sn) dn m_tape m_letter m_letterAt m_told tp mat stm m_kept him ki crs m_price m_offer m_gets m_yes m_buys m_ends m_carried m_row rm m_keptRow m_likeGets m_likePrice m_ahead, cI aC m_kind 9 kf, cI aC m_figure 9 ff, cI aC m_weight 9 wf, cI aC m_refused 7 mr]) hP hD [4, 0, 1, 2, 3] (by decide) rfl
          have hP9 := hpd9.1
          have hD9 := hpd9.2
          refine W.widen (k := 0) (n := 0) (by omega) (by omega) ?_
          exact W.iret (v := x_8) hx hb hr (fun t ht hW => ⟨⟨x_8, (mr), rfl, by rw [e_8, nI_clamp (by omega)]; unfold rMan; rw [if_pos (OKI_nI hn8 ha8), if_neg c_5, if_neg c_6, if_pos (w3 (isin_y hz_17 c_4).1 (isin_y hz_17 c_4).2 c_5 c_6), nI_clamp (by omega)]; exact he.2.2.1, by rw [ht]; exact hP9, va_K.moved hW.alike hK, hD9⟩, hS.F ht⟩) hS.2.2 dX12_man_63
        · refine lv_aload_n hx hb dX12_man_48 rfl (lv_at hl 0 rfl) ?_
          refine va_get (D := (dC, dI)) (ci := 12) (v := Value.ref m_figure) (C := RX12) (T := TX12) (N := 33) hx hb hts inX12 hown hK hP 4 rfl rfl 2 (by decide) (hts _ (gw kw_719 rfl)) (fun _ h9 => h9) rfl dX12_man_49 ?_
          refine lv_iload_n hx hb dX12_man_52 rfl (lv_at hl 1 rfl) ?_
          have h_9 : vp_in (nI a) 9 := by first | exact vp_in_nI (by omega) (by omega) | (unfold vp_in; decide) | (subst_vars; first | (unfold vp_in; decide) | exact vp_in_nI (by omega) (by omega))
          refine va_iald hx hb hK hP 1 0 rfl rfl h_9 dX12_man_53 ?_
          refine lv_topi (fun x_10 e_10 => ?_)
          refine lv_goto (tgt := 63) hx hb dX12_man_54 (by decide) ?_
          have hpd9 := pd_N (cx := [oX12 g0 m_refused m_kind m_figure m_weight m_got m_setting (nI n) (nI sn) dn m_tape m_letter m_letterAt m_told tp mat stm m_kept him ki crs m_price m_offer m_gets m_yes m_buys m_ends m_carried m_row rm m_keptRow m_likeGets m_likePrice m_ahead, cI aC m_kind 9 kf, cI aC m_figure 9 ff, cI aC m_weight 9 wf, cI aC m_refused 7 mr]) hP hD [4, 0, 1, 2, 3] (by decide) rfl
          have hP9 := hpd9.1
          have hD9 := hpd9.2
          refine W.widen (k := 0) (n := 0) (by omega) (by omega) ?_
          exact W.iret (v := x_10) hx hb hr (fun t ht hW => ⟨⟨x_10, (mr), rfl, by rw [e_10, nI_clamp (by omega)]; unfold rMan; rw [if_pos (OKI_nI hn8 ha8), if_neg c_5, if_pos c_6, nI_clamp (by omega)]; exact he.2.1.1, by rw [ht]; exact hP9, va_K.moved hW.alike hK, hD9⟩, hS.F ht⟩) hS.2.2 dX12_man_63
      · refine lv_aload_n hx hb dX12_man_34 rfl (lv_at hl 0 rfl) ?_
        refine va_get (D := (dC, dI)) (ci := 12) (v := Value.ref m_kind) (C := RX12) (T := TX12) (N := 33) hx hb hts inX12 hown hK hP 4 rfl rfl 1 (by decide) (hts _ (gw kw_718 rfl)) (fun _ h9 => h9) rfl dX12_man_35 ?_
        refine lv_iload_n hx hb dX12_man_38 rfl (lv_at hl 1 rfl) ?_
        have h_11 : vp_in (nI a) 9 := by first | exact vp_in_nI (by omega) (by omega) | (unfold vp_in; decide) | (subst_vars; first | (unfold vp_in; decide) | exact vp_in_nI (by omega) (by omega))
        refine va_iald hx hb hK hP 0 0 rfl rfl h_11 dX12_man_39 ?_
        refine lv_topi (fun x_12 e_12 => ?_)
        refine lv_goto (tgt := 63) hx hb dX12_man_40 (by decide) ?_
        have hpd9 := pd_N (cx := [oX12 g0 m_refused m_kind m_figure m_weight m_got m_setting (nI n) (nI sn) dn m_tape m_letter m_letterAt m_told tp mat stm m_kept him ki crs m_price m_offer m_gets m_yes m_buys m_ends m_carried m_row rm m_keptRow m_likeGets m_likePrice m_ahead, cI aC m_kind 9 kf, cI aC m_figure 9 ff, cI aC m_weight 9 wf, cI aC m_refused 7 mr]) hP hD [4, 0, 1, 2, 3] (by decide) rfl
        have hP9 := hpd9.1
        have hD9 := hpd9.2
        refine W.widen (k := 0) (n := 0) (by omega) (by omega) ?_
        exact W.iret (v := x_12) hx hb hr (fun t ht hW => ⟨⟨x_12, (mr), rfl, by rw [e_12, nI_clamp (by omega)]; unfold rMan; rw [if_pos (OKI_nI hn8 ha8), if_pos c_5, nI_clamp (by omega)]; exact he.1.1, by rw [ht]; exact hP9, va_K.moved hW.alike hK, hD9⟩, hS.F ht⟩) hS.2.2 dX12_man_63
    · refine lv_aload_n hx hb dX12_man_23 rfl (lv_at hl 0 rfl) ?_
      refine lv_bipush (v := -2) hx hb dX12_man_24 (by decide) ?_
      have hpd9 := pdf_N (cx := [oX12 g0 m_refused m_kind m_figure m_weight m_got m_setting (nI n) (nI sn) dn m_tape m_letter m_letterAt m_told tp mat stm m_kept him ki crs m_price m_offer m_gets m_yes m_buys m_ends m_carried m_row rm m_keptRow m_likeGets m_likePrice m_ahead, cI aC m_refused 7 mr]) hP hD hS hA [4, 3] (by decide) rfl
      have hPc := hpd9.1
      have hDc := hpd9.2.1
      have hFc := hpd9.2.2
      clear hpd9
      refine va_calli (va_runV (As := [Value.int (-2)]) (rest := []) ⟨hx, hb, hml, hown, hts⟩ (c_X12_no l dC dI aC H.size g0 m_refused m_kind m_figure m_weight m_got m_setting m_tape m_letter m_letterAt m_told m_kept m_price m_offer m_gets m_yes m_buys m_ends m_carried m_row m_keptRow m_likeGets m_likePrice m_ahead (nI n) (nI sn) dn tp mat stm him ki crs rm (-2) 2 mr (by decide) (by unfold vp_in; decide)) ⟨(callB_of 1 hts (gG kw_827) rfl rfl rfl (hts _ (gw kw_13 rfl)) (hts _ (gw kw_824 rfl)) hd_X12_no ⟨Nat.le_of_ble_eq_true rfl, Nat.le_of_ble_eq_true rfl⟩), (hts _ (gw kw_826 rfl)), (hts _ (gw ks_35 rfl))⟩ ⟨fb_std, va_recv (q := (RX12, TX12, 33)) hK hPc (ci := 12) (q0 := 0) rfl rfl, pre_std hPc hK hDc hN⟩ rfl rfl hl.1 rfl (lv_room (Nat.le_of_ble_eq_true rfl)) dX12_man_26 ⟨Nat.le_of_ble_eq_true rfl, Nat.le_of_ble_eq_true rfl⟩) hS (fun q _ h => hFc q h) hFc (fun x_13 u9 t9 H1 locs ht hvm hw_13 hB hz1 hk1 hS => ?_)
      obtain ⟨u_14, rfl⟩ : ∃ z, z = u9 := ⟨_, rfl⟩
      obtain ⟨hP1, hK1, hD1⟩ := hB
      rw [ht] at hP1
      clear hK1
      try dsimp only at hw_13
      have hpd9 : PDx (dC, dI) classes A H1 [cI aC m_kind 9 kf, cI aC m_figure 9 ff, cI aC m_weight 9 wf, oX12 g0 m_refused m_kind m_figure m_weight m_got m_setting (nI n) (nI sn) dn m_tape m_letter m_letterAt m_told tp mat stm m_kept him ki crs m_price m_offer m_gets m_yes m_buys m_ends m_carried m_row rm m_keptRow m_likeGets m_likePrice m_ahead, cI aC m_refused 7 u_14] := jn_N (wr := [cI aC m_kind 9 kf, cI aC m_figure 9 ff, cI aC m_weight 9 wf]) hFc hk1 hP1 hD1 hP hD [4, 3] [0, 1, 2] rfl rfl (by decide) (by decide)
      have hP := hpd9.1
      have hD := hpd9.2
      clear hpd9
      generalize H1 = H at hP hS ⊢
      clear hPc hDc hFc hz1 hk1 hP1 hD1 ht hvm
      obtain ⟨hv9, -⟩ := hw_13
      have hpd9 := pd_N (cx := [oX12 g0 m_refused m_kind m_figure m_weight m_got m_setting (nI n) (nI sn) dn m_tape m_letter m_letterAt m_told tp mat stm m_kept him ki crs m_price m_offer m_gets m_yes m_buys m_ends m_carried m_row rm m_keptRow m_likeGets m_likePrice m_ahead, cI aC m_kind 9 kf, cI aC m_figure 9 ff, cI aC m_weight 9 wf, cI aC m_refused 7 u_14]) hP hD [3, 0, 1, 2, 4] (by decide) rfl
      have hP9 := hpd9.1
      have hD9 := hpd9.2
      refine W.widen (k := 0) (n := 0) (by omega) (by omega) ?_
      exact W.iret (v := x_13) hx hb hr (fun t ht hW => ⟨⟨x_13, (u_14), rfl, by rw [hv9]; unfold rMan; rw [if_pos (OKI_nI hn8 ha8)]; rcases isin_n hz_17 c_4 with q | q <;> rw [if_neg (by rintro rfl; exact absurd q (by decide)), if_neg (by rintro rfl; exact absurd q (by decide)), if_neg (by rintro rfl; exact absurd q (by decide))], by rw [ht]; exact hP9, va_K.moved hW.alike hK, hD9⟩, hS.F ht⟩) hS.2.2 dX12_man_29
  · refine lv_aload_n hx hb dX12_man_8 rfl (lv_at hl 0 rfl) ?_
    refine lv_iconst (v := -1) hx hb dX12_man_9 (by decide) ?_
    have hpd9 := pdf_N (cx := [oX12 g0 m_refused m_kind m_figure m_weight m_got m_setting (nI n) (nI sn) dn m_tape m_letter m_letterAt m_told tp mat stm m_kept him ki crs m_price m_offer m_gets m_yes m_buys m_ends m_carried m_row rm m_keptRow m_likeGets m_likePrice m_ahead, cI aC m_refused 7 mr]) hP hD hS hA [4, 3] (by decide) rfl
    have hPc := hpd9.1
    have hDc := hpd9.2.1
    have hFc := hpd9.2.2
    clear hpd9
    refine va_calli (va_runV (As := [Value.int (-1)]) (rest := []) ⟨hx, hb, hml, hown, hts⟩ (c_X12_no l dC dI aC H.size g0 m_refused m_kind m_figure m_weight m_got m_setting m_tape m_letter m_letterAt m_told m_kept m_price m_offer m_gets m_yes m_buys m_ends m_carried m_row m_keptRow m_likeGets m_likePrice m_ahead (nI n) (nI sn) dn tp mat stm him ki crs rm (-1) 1 mr (by decide) (by unfold vp_in; decide)) ⟨(callB_of 1 hts (gG kw_827) rfl rfl rfl (hts _ (gw kw_13 rfl)) (hts _ (gw kw_824 rfl)) hd_X12_no ⟨Nat.le_of_ble_eq_true rfl, Nat.le_of_ble_eq_true rfl⟩), (hts _ (gw kw_826 rfl)), (hts _ (gw ks_35 rfl))⟩ ⟨fb_std, va_recv (q := (RX12, TX12, 33)) hK hPc (ci := 12) (q0 := 0) rfl rfl, pre_std hPc hK hDc hN⟩ rfl rfl hl.1 rfl (lv_room (Nat.le_of_ble_eq_true rfl)) dX12_man_10 ⟨Nat.le_of_ble_eq_true rfl, Nat.le_of_ble_eq_true rfl⟩) hS (fun q _ h => hFc q h) hFc (fun x_15 u9 t9 H1 locs ht hvm hw_15 hB hz1 hk1 hS => ?_)
    obtain ⟨u_16, rfl⟩ : ∃ z, z = u9 := ⟨_, rfl⟩
    obtain ⟨hP1, hK1, hD1⟩ := hB
    rw [ht] at hP1
    clear hK1
    try dsimp only at hw_15
    have hpd9 : PDx (dC, dI) classes A H1 [cI aC m_kind 9 kf, cI aC m_figure 9 ff, cI aC m_weight 9 wf, oX12 g0 m_refused m_kind m_figure m_weight m_got m_setting (nI n) (nI sn) dn m_tape m_letter m_letterAt m_told tp mat stm m_kept him ki crs m_price m_offer m_gets m_yes m_buys m_ends m_carried m_row rm m_keptRow m_likeGets m_likePrice m_ahead, cI aC m_refused 7 u_16] := jn_N (wr := [cI aC m_kind 9 kf, cI aC m_figure 9 ff, cI aC m_weight 9 wf]) hFc hk1 hP1 hD1 hP hD [4, 3] [0, 1, 2] rfl rfl (by decide) (by decide)
    have hP := hpd9.1
    have hD := hpd9.2
    clear hpd9
    generalize H1 = H at hP hS ⊢
    clear hPc hDc hFc hz1 hk1 hP1 hD1 ht hvm
    obtain ⟨hv9, -⟩ := hw_15
    have hpd9 := pd_N (cx := [oX12 g0 m_refused m_kind m_figure m_weight m_got m_setting (nI n) (nI sn) dn m_tape m_letter m_letterAt m_told tp mat stm m_kept him ki crs m_price m_offer m_gets m_yes m_buys m_ends m_carried m_row rm m_keptRow m_likeGets m_likePrice m_ahead, cI aC m_kind 9 kf, cI aC m_figure 9 ff, cI aC m_weight 9 wf, cI aC m_refused 7 u_16]) hP hD [3, 0, 1, 2, 4] (by decide) rfl
    have hP9 := hpd9.1
    have hD9 := hpd9.2
    refine W.widen (k := 0) (n := 0) (by omega) (by omega) ?_
    exact W.iret (v := x_15) hx hb hr (fun t ht hW => ⟨⟨x_15, (u_16), rfl, by rw [hv9]; unfold rMan; rw [if_neg (has_n hz_2 c_2)], by rw [ht]; exact hP9, va_K.moved hW.alike hK, hD9⟩, hS.F ht⟩) hS.2.2 dX12_man_13

set_option maxHeartbeats 1000000 in
set_option maxRecDepth 100000 in
/-- X12_set -/
theorem c_X12_set (l : Launch) (dC : Nat → ClassId) (dI : Nat → Nat → Nat) (aC : Nat → ClassId) (sz : Nat) (g0 : Nat) (m_refused : Nat) (m_kind : Nat) (m_figure : Nat) (m_weight : Nat) (m_got : Nat) (m_setting : Nat) (m_tape : Nat) (m_letter : Nat) (m_letterAt : Nat) (m_told : Nat) (m_kept : Nat) (m_price : Nat) (m_offer : Nat) (m_gets : Nat) (m_yes : Nat) (m_buys : Nat) (m_ends : Nat) (m_carried : Nat) (m_row : Nat) (m_keptRow : Nat) (m_likeGets : Nat) (m_likePrice : Nat) (m_ahead : Nat) (tp : Int32) (mat : Int32) (stm : Int32) (him : Int32) (ki : Int32) (crs : Int32) (rm : Int32) (n : Nat) (sn : Nat) (dn : Int32) (kf : Nat → Int32) (ff : Nat → Int32) (wf : Nat → Int32) (stf : Nat → Int32) (K : Nat → Nat) (F : Nat → Nat) (W0 : Nat → Nat) (S5 : Nat → Nat) (mr : Nat → Int32) (a1 : Int32) (a2 : Int32) (tM : Nat) (hev : EVS n sn dn K F W0 S5 kf ff wf stf) : Met l yX12_set (wW yX12_set cX12_set 5 (some .int)) ({ frames := 1, cells := 0, slots := 0, locals := 22 } : Room) (va_Pc [Value.ref g0, Value.int a1, Value.int a2] (fun U => U.heap.size = sz ∧ va_P (dC, dI) classes [oX12 g0 m_refused m_kind m_figure m_weight m_got m_setting (nI n) (nI sn) dn m_tape m_letter m_letterAt m_told tp mat stm m_kept him ki crs m_price m_offer m_gets m_yes m_buys m_ends m_carried m_row rm m_keptRow m_likeGets m_likePrice m_ahead, cI aC m_setting 5 stf, cI aC m_refused 7 mr] U.heap ∧ va_K (dC, dI) classes (TY aC) U ∧ va_D (fun _ => True) [oX12 g0 m_refused m_kind m_figure m_weight m_got m_setting (nI n) (nI sn) dn m_tape m_letter m_letterAt m_told tp mat stm m_kept him ki crs m_price m_offer m_gets m_yes m_buys m_ends m_carried m_row rm m_keptRow m_likeGets m_likePrice m_ahead, cI aC m_setting 5 stf, cI aC m_refused 7 mr] ∧ NX U ∧ va_Z "EldestSaysModel" "MOST_SET" "[I" (.ref tM) (va_A [oX12 g0 m_refused m_kind m_figure m_weight m_got m_setting (nI n) (nI sn) dn m_tape m_letter m_letterAt m_told tp mat stm m_kept him ki crs m_price m_offer m_gets m_yes m_buys m_ends m_carried m_row rm m_keptRow m_likeGets m_likePrice m_ahead, cI aC m_setting 5 stf, cI aC m_refused 7 mr] sz) U U.heap ∧ va_T .int tM 5 (fun j => .int (GV j)) (va_A [oX12 g0 m_refused m_kind m_figure m_weight m_got m_setting (nI n) (nI sn) dn m_tape m_letter m_letterAt m_told tp mat stm m_kept him ki crs m_price m_offer m_gets m_yes m_buys m_ends m_carried m_row rm m_keptRow m_likeGets m_likePrice m_ahead, cI aC m_setting 5 stf, cI aC m_refused 7 mr] sz) U U.heap)) (va_Qi (fun (r : Int32) (u : (Nat → Int32) × (Nat → Int32)) => match u with | (sg2, mr2) => r = setR S5 a1 a2 ∧ (¬ SOK a1 a2 → sg2 = stf) ∧ EVS n sn dn K F W0 (setS S5 a1 a2) kf ff wf sg2) (fun (u : (Nat → Int32) × (Nat → Int32)) (t : State) => match u with | (sg2, mr2) => va_P (dC, dI) classes [oX12 g0 m_refused m_kind m_figure m_weight m_got m_setting (nI n) (nI sn) dn m_tape m_letter m_letterAt m_told tp mat stm m_kept him ki crs m_price m_offer m_gets m_yes m_buys m_ends m_carried m_row rm m_keptRow m_likeGets m_likePrice m_ahead, cI aC m_setting 5 sg2, cI aC m_refused 7 mr2] t.heap ∧ va_K (dC, dI) classes (TY aC) t ∧ va_D (va_A [oX12 g0 m_refused m_kind m_figure m_weight m_got m_setting (nI n) (nI sn) dn m_tape m_letter m_letterAt m_told tp mat stm m_kept him ki crs m_price m_offer m_gets m_yes m_buys m_ends m_carried m_row rm m_keptRow m_likeGets m_likePrice m_ahead, cI aC m_setting 5 stf, cI aC m_refused 7 mr] sz) [oX12 g0 m_refused m_kind m_figure m_weight m_got m_setting (nI n) (nI sn) dn m_tape m_letter m_letterAt m_told tp mat stm m_kept him ki crs m_price m_offer m_gets m_yes m_buys m_ends m_carried m_row rm m_keptRow m_likeGets m_likePrice m_ahead, cI aC m_setting 5 sg2, cI aC m_refused 7 mr2]) (va_A [oX12 g0 m_refused m_kind m_figure m_weight m_got m_setting (nI n) (nI sn) dn m_tape m_letter m_letterAt m_told tp mat stm m_kept him ki crs m_price m_offer m_gets m_yes m_buys m_ends m_carried m_row rm m_keptRow m_likeGets m_likePrice m_ahead, cI aC m_setting 5 stf, cI aC m_refused 7 mr] sz)) 0 0 (va_A [oX12 g0 m_refused m_kind m_figure m_weight m_got m_setting (nI n) (nI sn) dn m_tape m_letter m_letterAt m_told tp mat stm m_kept him ki crs m_price m_offer m_gets m_yes m_buys m_ends m_carried m_row rm m_keptRow m_likeGets m_likePrice m_ahead, cI aC m_setting 5 stf, cI aC m_refused 7 mr] sz) := by
  refine Met.ofW (cc := cX12_set) (maxL := 5) (ret := (some .int)) (by decide) rfl ?_
  intro p e s m args below meth c s₁ B hml hv
  obtain ⟨rfl, hsz, hP, hK, hD0, hN, hZM, hTM⟩ := hv
  have hx := B.exec
  have hb := B.bytes
  have hr := B.returns
  have hts0 := atoms_spec (ws := (wW yX12_set cX12_set 5 (some .int))) B.pre
  have hts : ∀ w9 ∈ lw_G, w9.before ([Value.ref g0, Value.int a1, Value.int a2] : List Value).toArray s = true := fun w9 h9 => hts0 w9 (List.mem_cons_of_mem _ h9)
  have hown : s.vm.findClass RX12 = some m.cls := findClass_of_methodNamed (x := yX12_set) B.named
  have hlocks := B.notSynchronized
  subst hsz
  have hD := hD0.self (sz := s.heap.size)
  generalize hAe : va_A [oX12 g0 m_refused m_kind m_figure m_weight m_got m_setting (nI n) (nI sn) dn m_tape m_letter m_letterAt m_told tp mat stm m_kept him ki crs m_price m_offer m_gets m_yes m_buys m_ends m_carried m_row rm m_keptRow m_likeGets m_likePrice m_ahead, cI aC m_setting 5 stf, cI aC m_refused 7 mr] s.heap.size = A at hZM hTM hD ⊢
  have hA : ∀ q : Nat, s.heap.size ≤ q → A q := fun q h => by rw [← hAe]; exact Or.inr h
  obtain ⟨H, hHe⟩ : ∃ H : Heap, H = s.heap := ⟨_, rfl⟩
  have hS : va_S A s.heap H [] := by rw [hHe]; exact va_S.rf
  have hP : va_P (dC, dI) classes [oX12 g0 m_refused m_kind m_figure m_weight m_got m_setting (nI n) (nI sn) dn m_tape m_letter m_letterAt m_told tp mat stm m_kept him ki crs m_price m_offer m_gets m_yes m_buys m_ends m_carried m_row rm m_keptRow m_likeGets m_likePrice m_ahead, cI aC m_setting 5 stf, cI aC m_refused 7 mr] H := by rw [hHe]; exact hP
  have hl := lv_entry ([Value.ref g0, Value.int a1, Value.int a2]) (n := 5) (Nat.le_of_ble_eq_true rfl)
  rw [lg_entry_eq]
  generalize (lg_sl ([Value.ref g0, Value.int a1, Value.int a2]) ++ List.replicate (5 - (lg_sl ([Value.ref g0, Value.int a1, Value.int a2])).length) Slot.unset).toArray = ls at hl ⊢
  have hl : lv_has ls 5 [(0, Value.ref g0), (1, Value.int a1), (2, Value.int a2)] := hl
  rw [← hHe]
  refine lv_iload_n hx hb dX12_set_0 rfl (lv_at hl 1 rfl) ?_
  refine lv_iconst (v := 0) hx hb dX12_set_1 (by decide) ?_
  refine lv_iconst (v := 4) hx hb dX12_set_2 (by decide) ?_
  have hpd9 := pdf_N (cx := []) hP hD hS hA [] (by decide) rfl
  have hPc := hpd9.1
  have hDc := hpd9.2.1
  have hFc := hpd9.2.2
  clear hpd9
  refine va_calli (va_runS (As := [Value.int a1, Value.int 0, Value.int 4]) (rest := []) ⟨hx, hb, hml, hown, hts⟩ (c_X12_isIn l dC dI aC H.size a1 0 4 ) ⟨(callB_of 3 hts (gG kw_846) rfl rfl rfl (hts _ (gw kw_13 rfl)) (hts _ (gw kw_844 rfl)) hd_X12_isIn ⟨Nat.le_of_ble_eq_true rfl, Nat.le_of_ble_eq_true rfl⟩), (hts _ (gw kw_845 rfl))⟩ ⟨fb_std, pre_std hPc hK hDc hN⟩ rfl rfl hl.1 rfl (lv_room (Nat.le_of_ble_eq_true rfl)) dX12_set_3 ⟨Nat.le_of_ble_eq_true rfl, Nat.le_of_ble_eq_true rfl⟩) hS (fun q _ h => hFc q h) hFc (fun x_1 u9 t9 H1 locs ht hvm hw_1 hB hz1 hk1 hS => ?_)
  obtain ⟨hP1, hK1, hD1⟩ := hB
  rw [ht] at hP1
  clear hK1
  try dsimp only at hw_1
  have hpd9 : PDx (dC, dI) classes A H1 [oX12 g0 m_refused m_kind m_figure m_weight m_got m_setting (nI n) (nI sn) dn m_tape m_letter m_letterAt m_told tp mat stm m_kept him ki crs m_price m_offer m_gets m_yes m_buys m_ends m_carried m_row rm m_keptRow m_likeGets m_likePrice m_ahead, cI aC m_setting 5 stf, cI aC m_refused 7 mr] := jn_N (wr := [oX12 g0 m_refused m_kind m_figure m_weight m_got m_setting (nI n) (nI sn) dn m_tape m_letter m_letterAt m_told tp mat stm m_kept him ki crs m_price m_offer m_gets m_yes m_buys m_ends m_carried m_row rm m_keptRow m_likeGets m_likePrice m_ahead, cI aC m_setting 5 stf, cI aC m_refused 7 mr]) hFc hk1 hP1 hD1 hP hD [] [0, 1, 2] rfl rfl (by decide) (by decide)
  have hP := hpd9.1
  have hD := hpd9.2
  clear hpd9
  generalize H1 = H at hP hS ⊢
  clear hPc hDc hFc hz1 hk1 hP1 hD1 ht hvm
  have hz_3 := hw_1
  refine lv_if_ne (tgt := 16) hx hb dX12_set_6 (by decide) (fun c_2 => ?_) (fun c_2 => ?_)
  · refine lv_iload_n hx hb dX12_set_16 rfl (lv_at hl 2 rfl) ?_
    refine lv_iconst (v := 0) hx hb dX12_set_17 (by decide) ?_
    refine va_gets (v := .ref tM) hx hb hZM hS hown (hts _ (gw kw_883 rfl)) (fun _ h9 => h9) dX12_set_18 ?_
    refine lv_iload_n hx hb dX12_set_21 rfl (lv_at hl 1 rfl) ?_
    have h_3 : vp_in a1 5 := vin (n := 5) (isin_y hz_3 c_2).1 (w5 (isin_y hz_3 c_2).2) rfl
    refine va_ti hx hb hTM hS h_3 rfl dX12_set_22 ?_
    refine lv_topi (fun x_4 e_4 => ?_)
    have hpd9 := pdf_N (cx := []) hP hD hS hA [] (by decide) rfl
    have hPc := hpd9.1
    have hDc := hpd9.2.1
    have hFc := hpd9.2.2
    clear hpd9
    refine va_calli (va_runS (As := [Value.int a2, Value.int 0, Value.int x_4]) (rest := []) ⟨hx, hb, hml, hown, hts⟩ (c_X12_bound l dC dI aC H.size a2 0 x_4 ) ⟨(callB_of 3 hts (gG kw_823) rfl rfl rfl (hts _ (gw kw_13 rfl)) (hts _ (gw kw_821 rfl)) hd_X12_bound ⟨Nat.le_of_ble_eq_true rfl, Nat.le_of_ble_eq_true rfl⟩), (hts _ (gw kw_822 rfl))⟩ ⟨fb_std, pre_std hPc hK hDc hN⟩ rfl rfl hl.1 rfl (lv_room (Nat.le_of_ble_eq_true rfl)) dX12_set_23 ⟨Nat.le_of_ble_eq_true rfl, Nat.le_of_ble_eq_true rfl⟩) hS (fun q _ h => hFc q h) hFc (fun x_5 u9 t9 H1 locs ht hvm hw_5 hB hz1 hk1 hS => ?_)
    obtain ⟨hP1, hK1, hD1⟩ := hB
    rw [ht] at hP1
    clear hK1
    try dsimp only at hw_5
    have hpd9 : PDx (dC, dI) classes A H1 [oX12 g0 m_refused m_kind m_figure m_weight m_got m_setting (nI n) (nI sn) dn m_tape m_letter m_letterAt m_told tp mat stm m_kept him ki crs m_price m_offer m_gets m_yes m_buys m_ends m_carried m_row rm m_keptRow m_likeGets m_likePrice m_ahead, cI aC m_setting 5 stf, cI aC m_refused 7 mr] := jn_N (wr := [oX12 g0 m_refused m_kind m_figure m_weight m_got m_setting (nI n) (nI sn) dn m_tape m_letter m_letterAt m_told tp mat stm m_kept him ki crs m_price m_offer m_gets m_yes m_buys m_ends m_carried m_row rm m_keptRow m_likeGets m_likePrice m_ahead, cI aC m_setting 5 stf, cI aC m_refused 7 mr]) hFc hk1 hP1 hD1 hP hD [] [0, 1, 2] rfl rfl (by decide) (by decide)
    have hP := hpd9.1
    have hD := hpd9.2
    clear hpd9
    generalize H1 = H at hP hS ⊢
    clear hPc hDc hFc hz1 hk1 hP1 hD1 ht hvm
    have hz_23 := hw_5
    refine lv_istore_n (lv' := [(3, Value.int x_5), (0, Value.ref g0), (1, Value.int a1), (2, Value.int a2)]) hx hb dX12_set_26 rfl hl (by decide) rfl (fun ls hl => ?_)
    refine lv_iload_n hx hb dX12_set_27 rfl (lv_at hl 0 rfl) ?_
    refine lv_if_eq (tgt := 37) hx hb dX12_set_28 (by decide) (fun c_6 => ?_) (fun c_6 => ?_)
    · refine lv_aload_n hx hb dX12_set_37 rfl (lv_at hl 1 rfl) ?_
      refine va_get (D := (dC, dI)) (ci := 12) (v := Value.ref m_setting) (C := RX12) (T := TX12) (N := 33) hx hb hts inX12 hown hK hP 0 rfl rfl 5 (by decide) (hts _ (gw kw_722 rfl)) (fun _ h9 => h9) rfl dX12_set_38 ?_
      refine lv_iload_n hx hb dX12_set_41 rfl (lv_at hl 2 rfl) ?_
      have h_7 : vp_in a1 5 := vin (n := 5) (isin_y hz_3 c_2).1 (w5 (isin_y hz_3 c_2).2) rfl
      refine va_iald hx hb hK hP 1 0 rfl rfl h_7 dX12_set_42 ?_
      refine lv_topi (fun x_8 e_8 => ?_)
      refine lv_istore (lv' := [(4, Value.int x_8), (3, Value.int x_5), (0, Value.ref g0), (1, Value.int a1), (2, Value.int a2)]) hx hb dX12_set_43 hl (by decide) rfl (fun ls hl => ?_)
      refine lv_aload_n hx hb dX12_set_45 rfl (lv_at hl 2 rfl) ?_
      refine va_get (D := (dC, dI)) (ci := 12) (v := Value.ref m_setting) (C := RX12) (T := TX12) (N := 33) hx hb hts inX12 hown hK hP 0 rfl rfl 5 (by decide) (hts _ (gw kw_722 rfl)) (fun _ h9 => h9) rfl dX12_set_46 ?_
      refine lv_iload_n hx hb dX12_set_49 rfl (lv_at hl 3 rfl) ?_
      refine lv_iload_n hx hb dX12_set_50 rfl (lv_at hl 4 rfl) ?_
      have h_9 : vp_in a1 5 := vin (n := 5) (isin_y hz_3 c_2).1 (w5 (isin_y hz_3 c_2).2) rfl
      refine va_iast hx hb hK hP hD hS 1 0 rfl rfl h_9 dX12_set_51 (fun H locs hP hD hS => ?_)
      obtain ⟨f_10, e_f_10⟩ : ∃ y : Nat → Int32, y = upd stf (a1 : Int32).toNatClampNeg a2 := ⟨_, rfl⟩
      have hpd9 : PDx (dC, dI) classes A H [oX12 g0 m_refused m_kind m_figure m_weight m_got m_setting (nI n) (nI sn) dn m_tape m_letter m_letterAt m_told tp mat stm m_kept him ki crs m_price m_offer m_gets m_yes m_buys m_ends m_carried m_row rm m_keptRow m_likeGets m_likePrice m_ahead, cI aC m_setting 5 f_10, cI aC m_refused 7 mr] := by rw [e_f_10]; exact ⟨hP, hD⟩
      have hP := hpd9.1
      have hD := hpd9.2
      clear hpd9
      refine lv_iload hx hb dX12_set_52 (lv_at hl 0 rfl) ?_
      have hpd9 := pd_N (cx := [oX12 g0 m_refused m_kind m_figure m_weight m_got m_setting (nI n) (nI sn) dn m_tape m_letter m_letterAt m_told tp mat stm m_kept him ki crs m_price m_offer m_gets m_yes m_buys m_ends m_carried m_row rm m_keptRow m_likeGets m_likePrice m_ahead, cI aC m_setting 5 f_10, cI aC m_refused 7 mr]) hP hD [0, 1, 2] (by decide) rfl
      have hP9 := hpd9.1
      have hD9 := hpd9.2
      refine W.widen (k := 0) (n := 0) (by omega) (by omega) ?_
      exact W.iret (v := x_8) hx hb hr (fun t ht hW => ⟨⟨x_8, (f_10, mr), rfl, ⟨by rw [e_8]; unfold setR; rw [if_neg (isin_y hz_3 c_2).1, if_neg (Int32.not_le.mpr (w5 (isin_y hz_3 c_2).2)), if_neg (bnd_0 hz_23 c_6).1, if_neg (by rw [← e_4]; exact (bnd_0 hz_23 c_6).2)]; obtain ⟨a, b, q1, q2, -⟩ := SOK_ix ⟨(isin_y hz_3 c_2).1, w5 (isin_y hz_3 c_2).2, (bnd_0 hz_23 c_6).1, by rw [← e_4]; exact (bnd_0 hz_23 c_6).2⟩; rw [q2, nI_clamp (by omega)]; exact hev.2.1 a q1, fun q => absurd ⟨(isin_y hz_3 c_2).1, w5 (isin_y hz_3 c_2).2, (bnd_0 hz_23 c_6).1, by rw [← e_4]; exact (bnd_0 hz_23 c_6).2⟩ q, EVS_set hev ⟨(isin_y hz_3 c_2).1, w5 (isin_y hz_3 c_2).2, (bnd_0 hz_23 c_6).1, by rw [← e_4]; exact (bnd_0 hz_23 c_6).2⟩ e_f_10⟩, by rw [ht]; exact hP9, va_K.moved hW.alike hK, hD9⟩, hS.F ht⟩) hS.2.2 dX12_set_54
    · refine lv_aload_n hx hb dX12_set_31 rfl (lv_at hl 1 rfl) ?_
      refine lv_iload_n hx hb dX12_set_32 rfl (lv_at hl 0 rfl) ?_
      have hpd9 := pdf_N (cx := [oX12 g0 m_refused m_kind m_figure m_weight m_got m_setting (nI n) (nI sn) dn m_tape m_letter m_letterAt m_told tp mat stm m_kept him ki crs m_price m_offer m_gets m_yes m_buys m_ends m_carried m_row rm m_keptRow m_likeGets m_likePrice m_ahead, cI aC m_refused 7 mr]) hP hD hS hA [0, 2] (by decide) rfl
      have hPc := hpd9.1
      have hDc := hpd9.2.1
      have hFc := hpd9.2.2
      clear hpd9
      refine va_calli (va_runV (As := [Value.int x_5]) (rest := []) ⟨hx, hb, hml, hown, hts⟩ (c_X12_no l dC dI aC H.size g0 m_refused m_kind m_figure m_weight m_got m_setting m_tape m_letter m_letterAt m_told m_kept m_price m_offer m_gets m_yes m_buys m_ends m_carried m_row m_keptRow m_likeGets m_likePrice m_ahead (nI n) (nI sn) dn tp mat stm him ki crs rm x_5 ((-x_5 : Int32).toNatClampNeg) mr (rfl) (by rcases bnd_n hz_23 c_6 with ⟨q1, q2⟩ | ⟨q1, q2, q3⟩ <;> first | (rw [q2]; unfold vp_in; decide) | (rw [q3]; unfold vp_in; decide))) ⟨(callB_of 1 hts (gG kw_827) rfl rfl rfl (hts _ (gw kw_13 rfl)) (hts _ (gw kw_824 rfl)) hd_X12_no ⟨Nat.le_of_ble_eq_true rfl, Nat.le_of_ble_eq_true rfl⟩), (hts _ (gw kw_826 rfl)), (hts _ (gw ks_35 rfl))⟩ ⟨fb_std, va_recv (q := (RX12, TX12, 33)) hK hPc (ci := 12) (q0 := 0) rfl rfl, pre_std hPc hK hDc hN⟩ rfl rfl hl.1 rfl (lv_room (Nat.le_of_ble_eq_true rfl)) dX12_set_33 ⟨Nat.le_of_ble_eq_true rfl, Nat.le_of_ble_eq_true rfl⟩) hS (fun q _ h => hFc q h) hFc (fun x_11 u9 t9 H1 locs ht hvm hw_11 hB hz1 hk1 hS => ?_)
      obtain ⟨u_12, rfl⟩ : ∃ z, z = u9 := ⟨_, rfl⟩
      obtain ⟨hP1, hK1, hD1⟩ := hB
      rw [ht] at hP1
      clear hK1
      try dsimp only at hw_11
      have hpd9 : PDx (dC, dI) classes A H1 [cI aC m_setting 5 stf, oX12 g0 m_refused m_kind m_figure m_weight m_got m_setting (nI n) (nI sn) dn m_tape m_letter m_letterAt m_told tp mat stm m_kept him ki crs m_price m_offer m_gets m_yes m_buys m_ends m_carried m_row rm m_keptRow m_likeGets m_likePrice m_ahead, cI aC m_refused 7 u_12] := jn_N (wr := [cI aC m_setting 5 stf]) hFc hk1 hP1 hD1 hP hD [0, 2] [1] rfl rfl (by decide) (by decide)
      have hP := hpd9.1
      have hD := hpd9.2
      clear hpd9
      generalize H1 = H at hP hS ⊢
      clear hPc hDc hFc hz1 hk1 hP1 hD1 ht hvm
      obtain ⟨hv9, -⟩ := hw_11
      have hpd9 := pd_N (cx := [oX12 g0 m_refused m_kind m_figure m_weight m_got m_setting (nI n) (nI sn) dn m_tape m_letter m_letterAt m_told tp mat stm m_kept him ki crs m_price m_offer m_gets m_yes m_buys m_ends m_carried m_row rm m_keptRow m_likeGets m_likePrice m_ahead, cI aC m_setting 5 stf, cI aC m_refused 7 u_12]) hP hD [1, 0, 2] (by decide) rfl
      have hP9 := hpd9.1
      have hD9 := hpd9.2
      refine W.widen (k := 0) (n := 0) (by omega) (by omega) ?_
      exact W.iret (v := x_11) hx hb hr (fun t ht hW => ⟨⟨x_11, (stf, u_12), rfl, by rcases bnd_n hz_23 c_6 with ⟨q1, q2⟩ | ⟨q1, q2, q3⟩ <;> first | exact ⟨by rw [hv9, q2]; unfold setR; rw [if_neg (isin_y hz_3 c_2).1, if_neg (Int32.not_le.mpr (w5 (isin_y hz_3 c_2).2)), if_pos q1], fun _ => rfl, by rw [setS_n (fun z => z.2.2.1 q1)]; exact hev⟩ | exact ⟨by rw [hv9, q3]; unfold setR; rw [if_neg (isin_y hz_3 c_2).1, if_neg (Int32.not_le.mpr (w5 (isin_y hz_3 c_2).2)), if_neg q1, if_pos (by rw [← e_4]; exact q2)], fun _ => rfl, by rw [setS_n (fun z => z.2.2.2 (by rw [← e_4]; exact q2))]; exact hev⟩, by rw [ht]; exact hP9, va_K.moved hW.alike hK, hD9⟩, hS.F ht⟩) hS.2.2 dX12_set_36
  · refine lv_aload_n hx hb dX12_set_9 rfl (lv_at hl 0 rfl) ?_
    refine lv_bipush (v := -2) hx hb dX12_set_10 (by decide) ?_
    have hpd9 := pdf_N (cx := [oX12 g0 m_refused m_kind m_figure m_weight m_got m_setting (nI n) (nI sn) dn m_tape m_letter m_letterAt m_told tp mat stm m_kept him ki crs m_price m_offer m_gets m_yes m_buys m_ends m_carried m_row rm m_keptRow m_likeGets m_likePrice m_ahead, cI aC m_refused 7 mr]) hP hD hS hA [0, 2] (by decide) rfl
    have hPc := hpd9.1
    have hDc := hpd9.2.1
    have hFc := hpd9.2.2
    clear hpd9
    refine va_calli (va_runV (As := [Value.int (-2)]) (rest := []) ⟨hx, hb, hml, hown, hts⟩ (c_X12_no l dC dI aC H.size g0 m_refused m_kind m_figure m_weight m_got m_setting m_tape m_letter m_letterAt m_told m_kept m_price m_offer m_gets m_yes m_buys m_ends m_carried m_row m_keptRow m_likeGets m_likePrice m_ahead (nI n) (nI sn) dn tp mat stm him ki crs rm (-2) 2 mr (by decide) (by unfold vp_in; decide)) ⟨(callB_of 1 hts (gG kw_827) rfl rfl rfl (hts _ (gw kw_13 rfl)) (hts _ (gw kw_824 rfl)) hd_X12_no ⟨Nat.le_of_ble_eq_true rfl, Nat.le_of_ble_eq_true rfl⟩), (hts _ (gw kw_826 rfl)), (hts _ (gw ks_35 rfl))⟩ ⟨fb_std, va_recv (q := (RX12, TX12, 33)) hK hPc (ci := 12) (q0 := 0) rfl rfl, pre_std hPc hK hDc hN⟩ rfl rfl hl.1 rfl (lv_room (Nat.le_of_ble_eq_true rfl)) dX12_set_12 ⟨Nat.le_of_ble_eq_true rfl, Nat.le_of_ble_eq_true rfl⟩) hS (fun q _ h => hFc q h) hFc (fun x_13 u9 t9 H1 locs ht hvm hw_13 hB hz1 hk1 hS => ?_)
    obtain ⟨u_14, rfl⟩ : ∃ z, z = u9 := ⟨_, rfl⟩
    obtain ⟨hP1, hK1, hD1⟩ := hB
    rw [ht] at hP1
    clear hK1
    try dsimp only at hw_13
    have hpd9 : PDx (dC, dI) classes A H1 [cI aC m_setting 5 stf, oX12 g0 m_refused m_kind m_figure m_weight m_got m_setting (nI n) (nI sn) dn m_tape m_letter m_letterAt m_told tp mat stm m_kept him ki crs m_price m_offer m_gets m_yes m_buys m_ends m_carried m_row rm m_keptRow m_likeGets m_likePrice m_ahead, cI aC m_refused 7 u_14] := jn_N (wr := [cI aC m_setting 5 stf]) hFc hk1 hP1 hD1 hP hD [0, 2] [1] rfl rfl (by decide) (by decide)
    have hP := hpd9.1
    have hD := hpd9.2
    clear hpd9
    generalize H1 = H at hP hS ⊢
    clear hPc hDc hFc hz1 hk1 hP1 hD1 ht hvm
    obtain ⟨hv9, -⟩ := hw_13
    have hpd9 := pd_N (cx := [oX12 g0 m_refused m_kind m_figure m_weight m_got m_setting (nI n) (nI sn) dn m_tape m_letter m_letterAt m_told tp mat stm m_kept him ki crs m_price m_offer m_gets m_yes m_buys m_ends m_carried m_row rm m_keptRow m_likeGets m_likePrice m_ahead, cI aC m_setting 5 stf, cI aC m_refused 7 u_14]) hP hD [1, 0, 2] (by decide) rfl
    have hP9 := hpd9.1
    have hD9 := hpd9.2
    refine W.widen (k := 0) (n := 0) (by omega) (by omega) ?_
    exact W.iret (v := x_13) hx hb hr (fun t ht hW => ⟨⟨x_13, (stf, u_14), rfl, by rcases isin_n hz_3 c_2 with q | q <;> first | exact ⟨by rw [hv9]; unfold setR; rw [if_pos q], fun _ => rfl, by rw [setS_n (fun z => z.1 q)]; exact hev⟩ | exact ⟨by rw [hv9]; unfold setR; rw [if_neg (fun z => absurd (Int32.lt_trans q z) (by decide)), if_pos (w5n q)], fun _ => rfl, by rw [setS_n (fun z => absurd (w5n q) (Int32.not_le.mpr z.2.1))]; exact hev⟩, by rw [ht]; exact hP9, va_K.moved hW.alike hK, hD9⟩, hS.F ht⟩) hS.2.2 dX12_set_15

set_option maxHeartbeats 1000000 in
set_option maxRecDepth 100000 in
/-- X12_count -/
theorem c_X12_count (l : Launch) (dC : Nat → ClassId) (dI : Nat → Nat → Nat) (aC : Nat → ClassId) (sz : Nat) (g0 : Nat) (m_refused : Nat) (m_kind : Nat) (m_figure : Nat) (m_weight : Nat) (m_got : Nat) (m_setting : Nat) (m_tape : Nat) (m_letter : Nat) (m_letterAt : Nat) (m_told : Nat) (m_kept : Nat) (m_price : Nat) (m_offer : Nat) (m_gets : Nat) (m_yes : Nat) (m_buys : Nat) (m_ends : Nat) (m_carried : Nat) (m_row : Nat) (m_keptRow : Nat) (m_likeGets : Nat) (m_likePrice : Nat) (m_ahead : Nat) (tp : Int32) (mat : Int32) (stm : Int32) (him : Int32) (ki : Int32) (crs : Int32) (rm : Int32) (n : Nat) (sn : Nat) (dn : Int32) (kf : Nat → Int32) (ff : Nat → Int32) (wf : Nat → Int32) (stf : Nat → Int32) (pf : Nat → Int32) (of : Nat → Int32) (gf : Nat → Int32) (yf : Nat → Int32) (bf : Nat → Int32) (ef : Nat → Int32) (cf : Nat → Int32) (K : Nat → Nat) (F : Nat → Nat) (W0 : Nat → Nat) (S5 : Nat → Nat) (mr : Nat → Int32) (w : Int32) (hev : EVS n sn dn K F W0 S5 kf ff wf stf) : Met l yX12_count (wW yX12_count cX12_count 2 (some .int)) ({ frames := 5, cells := 0, slots := 0, locals := 115 } : Room) (va_Pc [Value.ref g0, Value.int w] (fun U => U.heap.size = sz ∧ va_P (dC, dI) classes [oX12 g0 m_refused m_kind m_figure m_weight m_got m_setting (nI n) (nI sn) dn m_tape m_letter m_letterAt m_told tp mat stm m_kept him ki crs m_price m_offer m_gets m_yes m_buys m_ends m_carried m_row rm m_keptRow m_likeGets m_likePrice m_ahead, cI aC m_kind 9 kf, cI aC m_figure 9 ff, cI aC m_weight 9 wf, cI aC m_setting 5 stf, cI aC m_price 81 pf, cI aC m_offer 81 of, cI aC m_gets 90 gf, cI aC m_yes 9 yf, cI aC m_buys 9 bf, cI aC m_ends 9 ef, cI aC m_carried 9 cf, cI aC m_refused 7 mr] U.heap ∧ va_K (dC, dI) classes (TY aC) U ∧ va_D (fun _ => True) [oX12 g0 m_refused m_kind m_figure m_weight m_got m_setting (nI n) (nI sn) dn m_tape m_letter m_letterAt m_told tp mat stm m_kept him ki crs m_price m_offer m_gets m_yes m_buys m_ends m_carried m_row rm m_keptRow m_likeGets m_likePrice m_ahead, cI aC m_kind 9 kf, cI aC m_figure 9 ff, cI aC m_weight 9 wf, cI aC m_setting 5 stf, cI aC m_price 81 pf, cI aC m_offer 81 of, cI aC m_gets 90 gf, cI aC m_yes 9 yf, cI aC m_buys 9 bf, cI aC m_ends 9 ef, cI aC m_carried 9 cf, cI aC m_refused 7 mr] ∧ NX U)) (va_Qi (fun (r : Int32) (u : (Nat → Int32) × (Nat → Int32) × (Nat → Int32) × (Nat → Int32) × (Nat → Int32) × (Nat → Int32) × (Nat → Int32)) => match u with | (pf2, of2, gf2, yf2, bf2, ef2, cf2) => True) (fun (u : (Nat → Int32) × (Nat → Int32) × (Nat → Int32) × (Nat → Int32) × (Nat → Int32) × (Nat → Int32) × (Nat → Int32)) (t : State) => match u with | (pf2, of2, gf2, yf2, bf2, ef2, cf2) => va_P (dC, dI) classes [oX12 g0 m_refused m_kind m_figure m_weight m_got m_setting (nI n) (nI sn) dn m_tape m_letter m_letterAt m_told tp mat stm m_kept him ki crs m_price m_offer m_gets m_yes m_buys m_ends m_carried m_row rm m_keptRow m_likeGets m_likePrice m_ahead, cI aC m_kind 9 kf, cI aC m_figure 9 ff, cI aC m_weight 9 wf, cI aC m_setting 5 stf, cI aC m_price 81 pf2, cI aC m_offer 81 of2, cI aC m_gets 90 gf2, cI aC m_yes 9 yf2, cI aC m_buys 9 bf2, cI aC m_ends 9 ef2, cI aC m_carried 9 cf2, cI aC m_refused 7 mr] t.heap ∧ va_K (dC, dI) classes (TY aC) t ∧ va_D (va_A [oX12 g0 m_refused m_kind m_figure m_weight m_got m_setting (nI n) (nI sn) dn m_tape m_letter m_letterAt m_told tp mat stm m_kept him ki crs m_price m_offer m_gets m_yes m_buys m_ends m_carried m_row rm m_keptRow m_likeGets m_likePrice m_ahead, cI aC m_kind 9 kf, cI aC m_figure 9 ff, cI aC m_weight 9 wf, cI aC m_setting 5 stf, cI aC m_price 81 pf, cI aC m_offer 81 of, cI aC m_gets 90 gf, cI aC m_yes 9 yf, cI aC m_buys 9 bf, cI aC m_ends 9 ef, cI aC m_carried 9 cf, cI aC m_refused 7 mr] sz) [oX12 g0 m_refused m_kind m_figure m_weight m_got m_setting (nI n) (nI sn) dn m_tape m_letter m_letterAt m_told tp mat stm m_kept him ki crs m_price m_offer m_gets m_yes m_buys m_ends m_carried m_row rm m_keptRow m_likeGets m_likePrice m_ahead, cI aC m_kind 9 kf, cI aC m_figure 9 ff, cI aC m_weight 9 wf, cI aC m_setting 5 stf, cI aC m_price 81 pf2, cI aC m_offer 81 of2, cI aC m_gets 90 gf2, cI aC m_yes 9 yf2, cI aC m_buys 9 bf2, cI aC m_ends 9 ef2, cI aC m_carried 9 cf2, cI aC m_refused 7 mr]) (va_A [oX12 g0 m_refused m_kind m_figure m_weight m_got m_setting (nI n) (nI sn) dn m_tape m_letter m_letterAt m_told tp mat stm m_kept him ki crs m_price m_offer m_gets m_yes m_buys m_ends m_carried m_row rm m_keptRow m_likeGets m_likePrice m_ahead, cI aC m_kind 9 kf, cI aC m_figure 9 ff, cI aC m_weight 9 wf, cI aC m_setting 5 stf, cI aC m_price 81 pf, cI aC m_offer 81 of, cI aC m_gets 90 gf, cI aC m_yes 9 yf, cI aC m_buys 9 bf, cI aC m_ends 9 ef, cI aC m_carried 9 cf, cI aC m_refused 7 mr] sz)) 0 0 (va_A [oX12 g0 m_refused m_kind m_figure m_weight m_got m_setting (nI n) (nI sn) dn m_tape m_letter m_letterAt m_told tp mat stm m_kept him ki crs m_price m_offer m_gets m_yes m_buys m_ends m_carried m_row rm m_keptRow m_likeGets m_likePrice m_ahead, cI aC m_kind 9 kf, cI aC m_figure 9 ff, cI aC m_weight 9 wf, cI aC m_setting 5 stf, cI aC m_price 81 pf, cI aC m_offer 81 of, cI aC m_gets 90 gf, cI aC m_yes 9 yf, cI aC m_buys 9 bf, cI aC m_ends 9 ef, cI aC m_carried 9 cf, cI aC m_refused 7 mr] sz) := by
  refine Met.ofW (cc := cX12_count) (maxL := 2) (ret := (some .int)) (by decide) rfl ?_
  intro p e s m args below meth c s₁ B hml hv
  obtain ⟨rfl, hsz, hP, hK, hD0, hN⟩ := hv
  have hx := B.exec
  have hb := B.bytes
  have hr := B.returns
  have hts0 := atoms_spec (ws := (wW yX12_count cX12_count 2 (some .int))) B.pre
  have hts : ∀ w9 ∈ lw_G, w9.before ([Value.ref g0, Value.int w] : List Value).toArray s = true := fun w9 h9 => hts0 w9 (List.mem_cons_of_mem _ h9)
  have hown : s.vm.findClass RX12 = some m.cls := findClass_of_methodNamed (x := yX12_count) B.named
  have hlocks := B.notSynchronized
  subst hsz
  have hD := hD0.self (sz := s.heap.size)
  generalize hAe : va_A [oX12 g0 m_refused m_kind m_figure m_weight m_got m_setting (nI n) (nI sn) dn m_tape m_letter m_letterAt m_told tp mat stm m_kept him ki crs m_price m_offer m_gets m_yes m_buys m_ends m_carried m_row rm m_keptRow m_likeGets m_likePrice m_ahead, cI aC m_kind 9 kf, cI aC m_figure 9 ff, cI aC m_weight 9 wf, cI aC m_setting 5 stf, cI aC m_price 81 pf, cI aC m_offer 81 of, cI aC m_gets 90 gf, cI aC m_yes 9 yf, cI aC m_buys 9 bf, cI aC m_ends 9 ef, cI aC m_carried 9 cf, cI aC m_refused 7 mr] s.heap.size = A at hD ⊢
  have hA : ∀ q : Nat, s.heap.size ≤ q → A q := fun q h => by rw [← hAe]; exact Or.inr h
  obtain ⟨H, hHe⟩ : ∃ H : Heap, H = s.heap := ⟨_, rfl⟩
  have hS : va_S A s.heap H [] := by rw [hHe]; exact va_S.rf
  have hP : va_P (dC, dI) classes [oX12 g0 m_refused m_kind m_figure m_weight m_got m_setting (nI n) (nI sn) dn m_tape m_letter m_letterAt m_told tp mat stm m_kept him ki crs m_price m_offer m_gets m_yes m_buys m_ends m_carried m_row rm m_keptRow m_likeGets m_likePrice m_ahead, cI aC m_kind 9 kf, cI aC m_figure 9 ff, cI aC m_weight 9 wf, cI aC m_setting 5 stf, cI aC m_price 81 pf, cI aC m_offer 81 of, cI aC m_gets 90 gf, cI aC m_yes 9 yf, cI aC m_buys 9 bf, cI aC m_ends 9 ef, cI aC m_carried 9 cf, cI aC m_refused 7 mr] H := by rw [hHe]; exact hP
  have hl := lv_entry ([Value.ref g0, Value.int w]) (n := 2) (Nat.le_of_ble_eq_true rfl)
  rw [lg_entry_eq]
  generalize (lg_sl ([Value.ref g0, Value.int w]) ++ List.replicate (2 - (lg_sl ([Value.ref g0, Value.int w])).length) Slot.unset).toArray = ls at hl ⊢
  have hl : lv_has ls 2 [(0, Value.ref g0), (1, Value.int w)] := hl
  rw [← hHe]
  have hn8 := EVS_n hev
  refine lv_iload_n hx hb dX12_count_0 rfl (lv_at hl 1 rfl) ?_
  refine lv_bipush (v := 11) hx hb dX12_count_1 (by decide) ?_
  refine lv_bipush (v := 16) hx hb dX12_count_3 (by decide) ?_
  have hpd9 := pdf_N (cx := []) hP hD hS hA [] (by decide) rfl
  have hPc := hpd9.1
  have hDc := hpd9.2.1
  have hFc := hpd9.2.2
  clear hpd9
  refine va_calli (va_runS (As := [Value.int w, Value.int 11, Value.int 16]) (rest := []) ⟨hx, hb, hml, hown, hts⟩ (c_X12_isIn l dC dI aC H.size w 11 16 ) ⟨(callB_of 3 hts (gG kw_846) rfl rfl rfl (hts _ (gw kw_13 rfl)) (hts _ (gw kw_844 rfl)) hd_X12_isIn ⟨Nat.le_of_ble_eq_true rfl, Nat.le_of_ble_eq_true rfl⟩), (hts _ (gw kw_845 rfl))⟩ ⟨fb_std, pre_std hPc hK hDc hN⟩ rfl rfl hl.1 rfl (lv_room (Nat.le_of_ble_eq_true rfl)) dX12_count_5 ⟨Nat.le_of_ble_eq_true rfl, Nat.le_of_ble_eq_true rfl⟩) hS (fun q _ h => hFc q h) hFc (fun x_1 u9 t9 H1 locs ht hvm hw_1 hB hz1 hk1 hS => ?_)
  obtain ⟨hP1, hK1, hD1⟩ := hB
  rw [ht] at hP1
  clear hK1
  try dsimp only at hw_1
  have hpd9 : PDx (dC, dI) classes A H1 [oX12 g0 m_refused m_kind m_figure m_weight m_got m_setting (nI n) (nI sn) dn m_tape m_letter m_letterAt m_told tp mat stm m_kept him ki crs m_price m_offer m_gets m_yes m_buys m_ends m_carried m_row rm m_keptRow m_likeGets m_likePrice m_ahead, cI aC m_kind 9 kf, cI aC m_figure 9 ff, cI aC m_weight 9 wf, cI aC m_setting 5 stf, cI aC m_price 81 pf, cI aC m_offer 81 of, cI aC m_gets 90 gf, cI aC m_yes 9 yf, cI aC m_buys 9 bf, cI aC m_ends 9 ef, cI aC m_carried 9 cf, cI aC m_refused 7 mr] := jn_N (wr := [oX12 g0 m_refused m_kind m_figure m_weight m_got m_setting (nI n) (nI sn) dn m_tape m_letter m_letterAt m_told tp mat stm m_kept him ki crs m_price m_offer m_gets m_yes m_buys m_ends m_carried m_row rm m_keptRow m_likeGets m_likePrice m_ahead, cI aC m_kind 9 kf, cI aC m_figure 9 ff, cI aC m_weight 9 wf, cI aC m_setting 5 stf, cI aC m_price 81 pf, cI aC m_offer 81 of, cI aC m_gets 90 gf, cI aC m_yes 9 yf, cI aC m_buys 9 bf, cI aC m_ends 9 ef, cI aC m_carried 9 cf, cI aC m_refused 7 mr]) hFc hk1 hP1 hD1 hP hD [] [0, 1, 2, 3, 4, 5, 6, 7, 8, 9, 10, 11, 12] rfl rfl (by decide) (by decide)
  have hP := hpd9.1
  have hD := hpd9.2
  clear hpd9
  generalize H1 = H at hP hS ⊢
  clear hPc hDc hFc hz1 hk1 hP1 hD1 ht hvm
  have hz_5 := hw_1
  refine lv_if_eq (tgt := 21) hx hb dX12_count_8 (by decide) (fun c_2 => ?_) (fun c_2 => ?_)
  · refine lv_iload_n hx hb dX12_count_21 rfl (lv_at hl 1 rfl) ?_
    by_cases c_3 : w = 0
    · refine lv_tableIn (tgt := 64) hx hb dX12_count_22 (by rw [c_3]; decide) (by rw [c_3]; decide) (by rw [c_3]; rfl) (by decide) ?_
      refine lv_aload_n hx hb dX12_count_64 rfl (lv_at hl 0 rfl) ?_
      refine va_get (D := (dC, dI)) (ci := 12) (v := Value.int (nI n)) (C := RX12) (T := TX12) (N := 33) hx hb hts inX12 hown hK hP 0 rfl rfl 6 (by decide) (hts _ (gw kw_723 rfl)) (fun _ h9 => h9) rfl dX12_count_65 ?_
      have hpd9 := pd_N (cx := [oX12 g0 m_refused m_kind m_figure m_weight m_got m_setting (nI n) (nI sn) dn m_tape m_letter m_letterAt m_told tp mat stm m_kept him ki crs m_price m_offer m_gets m_yes m_buys m_ends m_carried m_row rm m_keptRow m_likeGets m_likePrice m_ahead, cI aC m_kind 9 kf, cI aC m_figure 9 ff, cI aC m_weight 9 wf, cI aC m_setting 5 stf, cI aC m_price 81 pf, cI aC m_offer 81 of, cI aC m_gets 90 gf, cI aC m_yes 9 yf, cI aC m_buys 9 bf, cI aC m_ends 9 ef, cI aC m_carried 9 cf, cI aC m_refused 7 mr]) hP hD [0, 1, 2, 3, 4, 5, 6, 7, 8, 9, 10, 11, 12] (by decide) rfl
      have hP9 := hpd9.1
      have hD9 := hpd9.2
      refine W.widen (k := 0) (n := 0) (by omega) (by omega) ?_
      exact W.iret (v := nI n) hx hb hr (fun t ht hW => ⟨⟨(nI n), (pf, of, gf, yf, bf, ef, cf), rfl, trivial, by rw [ht]; exact hP9, va_K.moved hW.alike hK, hD9⟩, hS.F ht⟩) hS.2.2 dX12_count_68
    by_cases c_4 : w = 1
    · refine lv_tableIn (tgt := 69) hx hb dX12_count_22 (by rw [c_4]; decide) (by rw [c_4]; decide) (by rw [c_4]; rfl) (by decide) ?_
      refine lv_aload_n hx hb dX12_count_69 rfl (lv_at hl 0 rfl) ?_
      refine va_get (D := (dC, dI)) (ci := 12) (v := Value.int (nI sn)) (C := RX12) (T := TX12) (N := 33) hx hb hts inX12 hown hK hP 0 rfl rfl 7 (by decide) (hts _ (gw kw_724 rfl)) (fun _ h9 => h9) rfl dX12_count_70 ?_
      have hpd9 := pd_N (cx := [oX12 g0 m_refused m_kind m_figure m_weight m_got m_setting (nI n) (nI sn) dn m_tape m_letter m_letterAt m_told tp mat stm m_kept him ki crs m_price m_offer m_gets m_yes m_buys m_ends m_carried m_row rm m_keptRow m_likeGets m_likePrice m_ahead, cI aC m_kind 9 kf, cI aC m_figure 9 ff, cI aC m_weight 9 wf, cI aC m_setting 5 stf, cI aC m_price 81 pf, cI aC m_offer 81 of, cI aC m_gets 90 gf, cI aC m_yes 9 yf, cI aC m_buys 9 bf, cI aC m_ends 9 ef, cI aC m_carried 9 cf, cI aC m_refused 7 mr]) hP hD [0, 1, 2, 3, 4, 5, 6, 7, 8, 9, 10, 11, 12] (by decide) rfl
      have hP9 := hpd9.1
      have hD9 := hpd9.2
      refine W.widen (k := 0) (n := 0) (by omega) (by omega) ?_
      exact W.iret (v := nI sn) hx hb hr (fun t ht hW => ⟨⟨(nI sn), (pf, of, gf, yf, bf, ef, cf), rfl, trivial, by rw [ht]; exact hP9, va_K.moved hW.alike hK, hD9⟩, hS.F ht⟩) hS.2.2 dX12_count_73
    by_cases c_5 : w = 2
    · refine lv_tableIn (tgt := 74) hx hb dX12_count_22 (by rw [c_5]; decide) (by rw [c_5]; decide) (by rw [c_5]; rfl) (by decide) ?_
      refine lv_aload_n hx hb dX12_count_74 rfl (lv_at hl 0 rfl) ?_
      refine va_get (D := (dC, dI)) (ci := 12) (v := Value.int dn) (C := RX12) (T := TX12) (N := 33) hx hb hts inX12 hown hK hP 0 rfl rfl 8 (by decide) (hts _ (gw kw_725 rfl)) (fun _ h9 => h9) rfl dX12_count_75 ?_
      have hpd9 := pd_N (cx := [oX12 g0 m_refused m_kind m_figure m_weight m_got m_setting (nI n) (nI sn) dn m_tape m_letter m_letterAt m_told tp mat stm m_kept him ki crs m_price m_offer m_gets m_yes m_buys m_ends m_carried m_row rm m_keptRow m_likeGets m_likePrice m_ahead, cI aC m_kind 9 kf, cI aC m_figure 9 ff, cI aC m_weight 9 wf, cI aC m_setting 5 stf, cI aC m_price 81 pf, cI aC m_offer 81 of, cI aC m_gets 90 gf, cI aC m_yes 9 yf, cI aC m_buys 9 bf, cI aC m_ends 9 ef, cI aC m_carried 9 cf, cI aC m_refused 7 mr]) hP hD [0, 1, 2, 3, 4, 5, 6, 7, 8, 9, 10, 11, 12] (by decide) rfl
      have hP9 := hpd9.1
      have hD9 := hpd9.2
      refine W.widen (k := 0) (n := 0) (by omega) (by omega) ?_
      exact W.iret (v := dn) hx hb hr (fun t ht hW => ⟨⟨dn, (pf, of, gf, yf, bf, ef, cf), rfl, trivial, by rw [ht]; exact hP9, va_K.moved hW.alike hK, hD9⟩, hS.F ht⟩) hS.2.2 dX12_count_78
    by_cases c_6 : w = 3
    · refine lv_tableIn (tgt := 79) hx hb dX12_count_22 (by rw [c_6]; decide) (by rw [c_6]; decide) (by rw [c_6]; rfl) (by decide) ?_
      refine lv_aload_n hx hb dX12_count_79 rfl (lv_at hl 0 rfl) ?_
      refine lv_aload_n hx hb dX12_count_80 rfl (lv_at hl 0 rfl) ?_
      refine lv_aload_n hx hb dX12_count_81 rfl (lv_at hl 0 rfl) ?_
      refine va_get (D := (dC, dI)) (ci := 12) (v := Value.int (nI sn)) (C := RX12) (T := TX12) (N := 33) hx hb hts inX12 hown hK hP 0 rfl rfl 7 (by decide) (hts _ (gw kw_724 rfl)) (fun _ h9 => h9) rfl dX12_count_82 ?_
      have hpd9 := pdf_N (cx := [oX12 g0 m_refused m_kind m_figure m_weight m_got m_setting (nI n) (nI sn) dn m_tape m_letter m_letterAt m_told tp mat stm m_kept him ki crs m_price m_offer m_gets m_yes m_buys m_ends m_carried m_row rm m_keptRow m_likeGets m_likePrice m_ahead]) hP hD hS hA [0] (by decide) rfl
      have hPc := hpd9.1
      have hDc := hpd9.2.1
      have hFc := hpd9.2.2
      clear hpd9
      refine va_calli (va_runV (As := [Value.int (nI sn)]) (rest := [Value.ref g0]) ⟨hx, hb, hml, hown, hts⟩ (c_X12_leftFrom l dC dI aC H.size g0 m_refused m_kind m_figure m_weight m_got m_setting m_tape m_letter m_letterAt m_told m_kept m_price m_offer m_gets m_yes m_buys m_ends m_carried m_row m_keptRow m_likeGets m_likePrice m_ahead (nI sn) dn tp mat stm him ki crs rm n sn (⟨sn_le hev, hn8⟩)) ⟨(callB_of 1 hts (gG kw_922) rfl rfl rfl (hts _ (gw kw_13 rfl)) (hts _ (gw kw_919 rfl)) hd_X12_leftFrom ⟨Nat.le_of_ble_eq_true rfl, Nat.le_of_ble_eq_true rfl⟩), (hts _ (gw kw_921 rfl)), (hts _ (gw ks_50 rfl))⟩ ⟨fb_std, va_recv (q := (RX12, TX12, 33)) hK hPc (ci := 12) (q0 := 0) rfl rfl, pre_std hPc hK hDc hN⟩ rfl rfl hl.1 rfl (lv_room (Nat.le_of_ble_eq_true rfl)) dX12_count_85 ⟨Nat.le_of_ble_eq_true rfl, Nat.le_of_ble_eq_true rfl⟩) hS (fun q _ h => hFc q h) hFc (fun x_7 u9 t9 H1 locs ht hvm hw_7 hB hz1 hk1 hS => ?_)
      obtain ⟨hP1, hK1, hD1⟩ := hB
      rw [ht] at hP1
      clear hK1
      try dsimp only at hw_7
      have hpd9 : PDx (dC, dI) classes A H1 [cI aC m_kind 9 kf, cI aC m_figure 9 ff, cI aC m_weight 9 wf, cI aC m_setting 5 stf, cI aC m_price 81 pf, cI aC m_offer 81 of, cI aC m_gets 90 gf, cI aC m_yes 9 yf, cI aC m_buys 9 bf, cI aC m_ends 9 ef, cI aC m_carried 9 cf, cI aC m_refused 7 mr, oX12 g0 m_refused m_kind m_figure m_weight m_got m_setting (nI n) (nI sn) dn m_tape m_letter m_letterAt m_told tp mat stm m_kept him ki crs m_price m_offer m_gets m_yes m_buys m_ends m_carried m_row rm m_keptRow m_likeGets m_likePrice m_ahead] := jn_N (wr := [cI aC m_kind 9 kf, cI aC m_figure 9 ff, cI aC m_weight 9 wf, cI aC m_setting 5 stf, cI aC m_price 81 pf, cI aC m_offer 81 of, cI aC m_gets 90 gf, cI aC m_yes 9 yf, cI aC m_buys 9 bf, cI aC m_ends 9 ef, cI aC m_carried 9 cf, cI aC m_refused 7 mr]) hFc hk1 hP1 hD1 hP hD [0] [1, 2, 3, 4, 5, 6, 7, 8, 9, 10, 11, 12] rfl rfl (by decide) (by decide)
      have hP := hpd9.1
      have hD := hpd9.2
      clear hpd9
      generalize H1 = H at hP hS ⊢
      clear hPc hDc hFc hz1 hk1 hP1 hD1 ht hvm
      have hlf := hw_7
      have hpd9 := pdf_N (cx := [oX12 g0 m_refused m_kind m_figure m_weight m_got m_setting (nI n) (nI sn) dn m_tape m_letter m_letterAt m_told tp mat stm m_kept him ki crs m_price m_offer m_gets m_yes m_buys m_ends m_carried m_row rm m_keptRow m_likeGets m_likePrice m_ahead, cI aC m_weight 9 wf]) hP hD hS hA [12, 2] (by decide) rfl
      have hPc := hpd9.1
      have hDc := hpd9.2.1
      have hFc := hpd9.2.2
      clear hpd9
      refine va_calli (va_runV (As := [Value.int x_7]) (rest := []) ⟨hx, hb, hml, hown, hts⟩ (c_X12_weightOf l dC dI aC H.size g0 m_refused m_kind m_figure m_weight m_got m_setting m_tape m_letter m_letterAt m_told m_kept m_price m_offer m_gets m_yes m_buys m_ends m_carried m_row m_keptRow m_likeGets m_likePrice m_ahead (nI sn) dn tp mat stm him ki crs rm n wf W0 x_7 (HW_of hev.1)) ⟨(callB_of 1 hts (gG kw_930) rfl rfl rfl (hts _ (gw kw_13 rfl)) (hts _ (gw kw_927 rfl)) hd_X12_weightOf ⟨Nat.le_of_ble_eq_true rfl, Nat.le_of_ble_eq_true rfl⟩), (hts _ (gw kw_929 rfl)), (hts _ (gw ks_52 rfl))⟩ ⟨fb_std, va_recv (q := (RX12, TX12, 33)) hK hPc (ci := 12) (q0 := 0) rfl rfl, pre_std hPc hK hDc hN⟩ rfl rfl hl.1 rfl (lv_room (Nat.le_of_ble_eq_true rfl)) dX12_count_88 ⟨Nat.le_of_ble_eq_true rfl, Nat.le_of_ble_eq_true rfl⟩) hS (fun q _ h => hFc q h) hFc (fun x_8 u9 t9 H1 locs ht hvm hw_8 hB hz1 hk1 hS => ?_)
      obtain ⟨hP1, hK1, hD1⟩ := hB
      rw [ht] at hP1
      clear hK1
      try dsimp only at hw_8
      have hpd9 : PDx (dC, dI) classes A H1 [cI aC m_kind 9 kf, cI aC m_figure 9 ff, cI aC m_setting 5 stf, cI aC m_price 81 pf, cI aC m_offer 81 of, cI aC m_gets 90 gf, cI aC m_yes 9 yf, cI aC m_buys 9 bf, cI aC m_ends 9 ef, cI aC m_carried 9 cf, cI aC m_refused 7 mr, oX12 g0 m_refused m_kind m_figure m_weight m_got m_setting (nI n) (nI sn) dn m_tape m_letter m_letterAt m_told tp mat stm m_kept him ki crs m_price m_offer m_gets m_yes m_buys m_ends m_carried m_row rm m_keptRow m_likeGets m_likePrice m_ahead, cI aC m_weight 9 wf] := jn_N (wr := [cI aC m_kind 9 kf, cI aC m_figure 9 ff, cI aC m_setting 5 stf, cI aC m_price 81 pf, cI aC m_offer 81 of, cI aC m_gets 90 gf, cI aC m_yes 9 yf, cI aC m_buys 9 bf, cI aC m_ends 9 ef, cI aC m_carried 9 cf, cI aC m_refused 7 mr]) hFc hk1 hP1 hD1 hP hD [12, 2] [0, 1, 3, 4, 5, 6, 7, 8, 9, 10, 11] rfl rfl (by decide) (by decide)
      have hP := hpd9.1
      have hD := hpd9.2
      clear hpd9
      generalize H1 = H at hP hS ⊢
      clear hPc hDc hFc hz1 hk1 hP1 hD1 ht hvm
      have hpd9 := pd_N (cx := [oX12 g0 m_refused m_kind m_figure m_weight m_got m_setting (nI n) (nI sn) dn m_tape m_letter m_letterAt m_told tp mat stm m_kept him ki crs m_price m_offer m_gets m_yes m_buys m_ends m_carried m_row rm m_keptRow m_likeGets m_likePrice m_ahead, cI aC m_kind 9 kf, cI aC m_figure 9 ff, cI aC m_weight 9 wf, cI aC m_setting 5 stf, cI aC m_price 81 pf, cI aC m_offer 81 of, cI aC m_gets 90 gf, cI aC m_yes 9 yf, cI aC m_buys 9 bf, cI aC m_ends 9 ef, cI aC m_carried 9 cf, cI aC m_refused 7 mr]) hP hD [11, 0, 1, 12, 2, 3, 4, 5, 6, 7, 8, 9, 10] (by decide) rfl
      have hP9 := hpd9.1
      have hD9 := hpd9.2
      refine W.widen (k := 0) (n := 0) (by omega) (by omega) ?_
      exact W.iret (v := x_8) hx hb hr (fun t ht hW => ⟨⟨x_8, (pf, of, gf, yf, bf, ef, cf), rfl, trivial, by rw [ht]; exact hP9, va_K.moved hW.alike hK, hD9⟩, hS.F ht⟩) hS.2.2 dX12_count_91
    by_cases c_9 : w = 4
    · refine lv_tableIn (tgt := 92) hx hb dX12_count_22 (by rw [c_9]; decide) (by rw [c_9]; decide) (by rw [c_9]; rfl) (by decide) ?_
      refine lv_aload_n hx hb dX12_count_92 rfl (lv_at hl 0 rfl) ?_
      refine va_get (D := (dC, dI)) (ci := 12) (v := Value.int tp) (C := RX12) (T := TX12) (N := 33) hx hb hts inX12 hown hK hP 0 rfl rfl 13 (by decide) (hts _ (gw kw_730 rfl)) (fun _ h9 => h9) rfl dX12_count_93 ?_
      have hpd9 := pd_N (cx := [oX12 g0 m_refused m_kind m_figure m_weight m_got m_setting (nI n) (nI sn) dn m_tape m_letter m_letterAt m_told tp mat stm m_kept him ki crs m_price m_offer m_gets m_yes m_buys m_ends m_carried m_row rm m_keptRow m_likeGets m_likePrice m_ahead, cI aC m_kind 9 kf, cI aC m_figure 9 ff, cI aC m_weight 9 wf, cI aC m_setting 5 stf, cI aC m_price 81 pf, cI aC m_offer 81 of, cI aC m_gets 90 gf, cI aC m_yes 9 yf, cI aC m_buys 9 bf, cI aC m_ends 9 ef, cI aC m_carried 9 cf, cI aC m_refused 7 mr]) hP hD [0, 1, 2, 3, 4, 5, 6, 7, 8, 9, 10, 11, 12] (by decide) rfl
      have hP9 := hpd9.1
      have hD9 := hpd9.2
      refine W.widen (k := 0) (n := 0) (by omega) (by omega) ?_
      exact W.iret (v := tp) hx hb hr (fun t ht hW => ⟨⟨tp, (pf, of, gf, yf, bf, ef, cf), rfl, trivial, by rw [ht]; exact hP9, va_K.moved hW.alike hK, hD9⟩, hS.F ht⟩) hS.2.2 dX12_count_96
    by_cases c_10 : w = 5
    · refine lv_tableIn (tgt := 97) hx hb dX12_count_22 (by rw [c_10]; decide) (by rw [c_10]; decide) (by rw [c_10]; rfl) (by decide) ?_
      refine lv_aload_n hx hb dX12_count_97 rfl (lv_at hl 0 rfl) ?_
      refine va_get (D := (dC, dI)) (ci := 12) (v := Value.int rm) (C := RX12) (T := TX12) (N := 33) hx hb hts inX12 hown hK hP 0 rfl rfl 28 (by decide) (hts _ (gw kw_745 rfl)) (fun _ h9 => h9) rfl dX12_count_98 ?_
      have hpd9 := pd_N (cx := [oX12 g0 m_refused m_kind m_figure m_weight m_got m_setting (nI n) (nI sn) dn m_tape m_letter m_letterAt m_told tp mat stm m_kept him ki crs m_price m_offer m_gets m_yes m_buys m_ends m_carried m_row rm m_keptRow m_likeGets m_likePrice m_ahead, cI aC m_kind 9 kf, cI aC m_figure 9 ff, cI aC m_weight 9 wf, cI aC m_setting 5 stf, cI aC m_price 81 pf, cI aC m_offer 81 of, cI aC m_gets 90 gf, cI aC m_yes 9 yf, cI aC m_buys 9 bf, cI aC m_ends 9 ef, cI aC m_carried 9 cf, cI aC m_refused 7 mr]) hP hD [0, 1, 2, 3, 4, 5, 6, 7, 8, 9, 10, 11, 12] (by decide) rfl
      have hP9 := hpd9.1
      have hD9 := hpd9.2
      refine W.widen (k := 0) (n := 0) (by omega) (by omega) ?_
      exact W.iret (v := rm) hx hb hr (fun t ht hW => ⟨⟨rm, (pf, of, gf, yf, bf, ef, cf), rfl, trivial, by rw [ht]; exact hP9, va_K.moved hW.alike hK, hD9⟩, hS.F ht⟩) hS.2.2 dX12_count_101
    by_cases c_11 : w = 6
    · refine lv_tableIn (tgt := 102) hx hb dX12_count_22 (by rw [c_11]; decide) (by rw [c_11]; decide) (by rw [c_11]; rfl) (by decide) ?_
      refine lv_aload_n hx hb dX12_count_102 rfl (lv_at hl 0 rfl) ?_
      have hpd9 := pdf_N (cx := [oX12 g0 m_refused m_kind m_figure m_weight m_got m_setting (nI n) (nI sn) dn m_tape m_letter m_letterAt m_told tp mat stm m_kept him ki crs m_price m_offer m_gets m_yes m_buys m_ends m_carried m_row rm m_keptRow m_likeGets m_likePrice m_ahead]) hP hD hS hA [0] (by decide) rfl
      have hPc := hpd9.1
      have hDc := hpd9.2.1
      have hFc := hpd9.2.2
      clear hpd9
      refine va_calli (va_runV (As := []) (rest := []) ⟨hx, hb, hml, hown, hts⟩ (c_X12_isOver l dC dI aC H.size g0 m_refused m_kind m_figure m_weight m_got m_setting m_tape m_letter m_letterAt m_told m_kept m_price m_offer m_gets m_yes m_buys m_ends m_carried m_row m_keptRow m_likeGets m_likePrice m_ahead (nI n) (nI sn) dn tp mat stm him ki crs rm ) ⟨(callB_of 0 hts (gG kw_994) rfl rfl rfl (hts _ (gw kw_13 rfl)) (hts _ (gw kw_991 rfl)) hd_X12_isOver ⟨Nat.le_of_ble_eq_true rfl, Nat.le_of_ble_eq_true rfl⟩), (hts _ (gw kw_993 rfl)), (hts _ (gw ks_58 rfl))⟩ ⟨fb_std, va_recv (q := (RX12, TX12, 33)) hK hPc (ci := 12) (q0 := 0) rfl rfl, pre_std hPc hK hDc hN⟩ rfl rfl hl.1 rfl (lv_room (Nat.le_of_ble_eq_true rfl)) dX12_count_103 ⟨Nat.le_of_ble_eq_true rfl, Nat.le_of_ble_eq_true rfl⟩) hS (fun q _ h => hFc q h) hFc (fun x_12 u9 t9 H1 locs ht hvm hw_12 hB hz1 hk1 hS => ?_)
      obtain ⟨hP1, hK1, hD1⟩ := hB
      rw [ht] at hP1
      clear hK1
      try dsimp only at hw_12
      have hpd9 : PDx (dC, dI) classes A H1 [cI aC m_kind 9 kf, cI aC m_figure 9 ff, cI aC m_weight 9 wf, cI aC m_setting 5 stf, cI aC m_price 81 pf, cI aC m_offer 81 of, cI aC m_gets 90 gf, cI aC m_yes 9 yf, cI aC m_buys 9 bf, cI aC m_ends 9 ef, cI aC m_carried 9 cf, cI aC m_refused 7 mr, oX12 g0 m_refused m_kind m_figure m_weight m_got m_setting (nI n) (nI sn) dn m_tape m_letter m_letterAt m_told tp mat stm m_kept him ki crs m_price m_offer m_gets m_yes m_buys m_ends m_carried m_row rm m_keptRow m_likeGets m_likePrice m_ahead] := jn_N (wr := [cI aC m_kind 9 kf, cI aC m_figure 9 ff, cI aC m_weight 9 wf, cI aC m_setting 5 stf, cI aC m_price 81 pf, cI aC m_offer 81 of, cI aC m_gets 90 gf, cI aC m_yes 9 yf, cI aC m_buys 9 bf, cI aC m_ends 9 ef, cI aC m_carried 9 cf, cI aC m_refused 7 mr]) hFc hk1 hP1 hD1 hP hD [0] [1, 2, 3, 4, 5, 6, 7, 8, 9, 10, 11, 12] rfl rfl (by decide) (by decide)
      have hP := hpd9.1
      have hD := hpd9.2
      clear hpd9
      generalize H1 = H at hP hS ⊢
      clear hPc hDc hFc hz1 hk1 hP1 hD1 ht hvm
      have hz_103 := hw_12
      refine lv_if_eq (tgt := 111) hx hb dX12_count_106 (by decide) (fun c_13 => ?_) (fun c_13 => ?_)
      · have hsn := sn_lt hev (ovm_n hz_103 c_13)
        refine lv_aload_n hx hb dX12_count_111 rfl (lv_at hl 0 rfl) ?_
        have hpd9 := pdf_N (cx := [oX12 g0 m_refused m_kind m_figure m_weight m_got m_setting (nI n) (nI sn) dn m_tape m_letter m_letterAt m_told tp mat stm m_kept him ki crs m_price m_offer m_gets m_yes m_buys m_ends m_carried m_row rm m_keptRow m_likeGets m_likePrice m_ahead, cI aC m_kind 9 kf, cI aC m_figure 9 ff, cI aC m_weight 9 wf, cI aC m_setting 5 stf, cI aC m_price 81 pf, cI aC m_offer 81 of, cI aC m_gets 90 gf, cI aC m_yes 9 yf, cI aC m_buys 9 bf, cI aC m_ends 9 ef, cI aC m_carried 9 cf]) hP hD hS hA [12, 0, 1, 2, 3, 4, 5, 6, 7, 8, 9, 10] (by decide) rfl
        have hPc := hpd9.1
        have hDc := hpd9.2.1
        have hFc := hpd9.2.2
        clear hpd9
        refine va_callv (va_runV (As := []) (rest := []) ⟨hx, hb, hml, hown, hts⟩ (c_X12_solvesAll l dC dI aC H.size g0 m_refused m_kind m_figure m_weight m_got m_setting m_tape m_letter m_letterAt m_told m_kept m_price m_offer m_gets m_yes m_buys m_ends m_carried m_row m_keptRow m_likeGets m_likePrice m_ahead (nI sn) dn tp mat stm him ki crs rm n kf ff wf stf pf of gf yf bf ef cf K F W0 (S5 0) (PO n K F W0 S5) (hev.1) (PO_cl hev)) ⟨(callB_of 0 hts (gG kw_896) rfl rfl rfl (hts _ (gw kw_13 rfl)) (hts _ (gw kw_893 rfl)) hd_X12_solvesAll ⟨Nat.le_of_ble_eq_true rfl, Nat.le_of_ble_eq_true rfl⟩), (hts _ (gw kw_895 rfl)), (hts _ (gw ks_45 rfl))⟩ ⟨fb_std, va_recv (q := (RX12, TX12, 33)) hK hPc (ci := 12) (q0 := 0) rfl rfl, pre_std hPc hK hDc hN⟩ rfl rfl hl.1 rfl (lv_room (Nat.le_of_ble_eq_true rfl)) dX12_count_112 ⟨Nat.le_of_ble_eq_true rfl, Nat.le_of_ble_eq_true rfl⟩) hS (fun q _ h => hFc q h) hFc (fun u9 t9 H1 locs ht hvm hw_14 hB hz1 hk1 hS => ?_)
        obtain ⟨u_15, u_16, u_17, u_18, u_19, u_20, u_21⟩ := u9
        obtain ⟨hP1, hK1, hD1⟩ := hB
        rw [ht] at hP1
        clear hK1
        try dsimp only at hw_14
        have hpd9 : PDx (dC, dI) classes A H1 [cI aC m_refused 7 mr, oX12 g0 m_refused m_kind m_figure m_weight m_got m_setting (nI n) (nI sn) dn m_tape m_letter m_letterAt m_told tp mat stm m_kept him ki crs m_price m_offer m_gets m_yes m_buys m_ends m_carried m_row rm m_keptRow m_likeGets m_likePrice m_ahead, cI aC m_kind 9 kf, cI aC m_figure 9 ff, cI aC m_weight 9 wf, cI aC m_setting 5 stf, cI aC m_price 81 u_15, cI aC m_offer 81 u_16, cI aC m_gets 90 u_17, cI aC m_yes 9 u_18, cI aC m_buys 9 u_19, cI aC m_ends 9 u_20, cI aC m_carried 9 u_21] := jn_N (wr := [cI aC m_refused 7 mr]) hFc hk1 hP1 hD1 hP hD [12, 0, 1, 2, 3, 4, 5, 6, 7, 8, 9, 10] [11] rfl rfl (by decide) (by decide)
        have hP := hpd9.1
        have hD := hpd9.2
        clear hpd9
        generalize H1 = H at hP hS ⊢
        clear hPc hDc hFc hz1 hk1 hP1 hD1 ht hvm
        have hm1 := hw_14
        refine lv_aload_n hx hb dX12_count_115 rfl (lv_at hl 0 rfl) ?_
        refine va_get (D := (dC, dI)) (ci := 12) (v := Value.ref m_ends) (C := RX12) (T := TX12) (N := 33) hx hb hts inX12 hown hK hP 1 rfl rfl 25 (by decide) (hts _ (gw kw_742 rfl)) (fun _ h9 => h9) rfl dX12_count_116 ?_
        refine lv_aload_n hx hb dX12_count_119 rfl (lv_at hl 0 rfl) ?_
        refine va_get (D := (dC, dI)) (ci := 12) (v := Value.int (nI sn)) (C := RX12) (T := TX12) (N := 33) hx hb hts inX12 hown hK hP 1 rfl rfl 7 (by decide) (hts _ (gw kw_724 rfl)) (fun _ h9 => h9) rfl dX12_count_120 ?_
        have h_22 : vp_in (nI sn) 9 := vp_in_nI (by omega) (by omega)
        refine va_iald hx hb hK hP 11 0 rfl rfl h_22 dX12_count_123 ?_
        refine lv_topi (fun x_23 e_23 => ?_)
        refine lv_aload_n hx hb dX12_count_124 rfl (lv_at hl 0 rfl) ?_
        refine va_get (D := (dC, dI)) (ci := 12) (v := Value.int (nI sn)) (C := RX12) (T := TX12) (N := 33) hx hb hts inX12 hown hK hP 1 rfl rfl 7 (by decide) (hts _ (gw kw_724 rfl)) (fun _ h9 => h9) rfl dX12_count_125 ?_
        refine lv_isub hx hb dX12_count_128 ?_
        refine lv_topi (fun x_24 e_24 => ?_)
        have hpd9 := pd_N (cx := [oX12 g0 m_refused m_kind m_figure m_weight m_got m_setting (nI n) (nI sn) dn m_tape m_letter m_letterAt m_told tp mat stm m_kept him ki crs m_price m_offer m_gets m_yes m_buys m_ends m_carried m_row rm m_keptRow m_likeGets m_likePrice m_ahead, cI aC m_kind 9 kf, cI aC m_figure 9 ff, cI aC m_weight 9 wf, cI aC m_setting 5 stf, cI aC m_price 81 u_15, cI aC m_offer 81 u_16, cI aC m_gets 90 u_17, cI aC m_yes 9 u_18, cI aC m_buys 9 u_19, cI aC m_ends 9 u_20, cI aC m_carried 9 u_21, cI aC m_refused 7 mr]) hP hD [1, 2, 3, 4, 5, 6, 7, 8, 9, 10, 11, 12, 0] (by decide) rfl
        have hP9 := hpd9.1
        have hD9 := hpd9.2
        refine W.widen (k := 0) (n := 0) (by omega) (by omega) ?_
        exact W.iret (v := x_24) hx hb hr (fun t ht hW => ⟨⟨x_24, (u_15, u_16, u_17, u_18, u_19, u_20, u_21), rfl, trivial, by rw [ht]; exact hP9, va_K.moved hW.alike hK, hD9⟩, hS.F ht⟩) hS.2.2 dX12_count_129
      · refine lv_iconst (v := 0) hx hb dX12_count_109 (by decide) ?_
        have hpd9 := pd_N (cx := [oX12 g0 m_refused m_kind m_figure m_weight m_got m_setting (nI n) (nI sn) dn m_tape m_letter m_letterAt m_told tp mat stm m_kept him ki crs m_price m_offer m_gets m_yes m_buys m_ends m_carried m_row rm m_keptRow m_likeGets m_likePrice m_ahead, cI aC m_kind 9 kf, cI aC m_figure 9 ff, cI aC m_weight 9 wf, cI aC m_setting 5 stf, cI aC m_price 81 pf, cI aC m_offer 81 of, cI aC m_gets 90 gf, cI aC m_yes 9 yf, cI aC m_buys 9 bf, cI aC m_ends 9 ef, cI aC m_carried 9 cf, cI aC m_refused 7 mr]) hP hD [12, 0, 1, 2, 3, 4, 5, 6, 7, 8, 9, 10, 11] (by decide) rfl
        have hP9 := hpd9.1
        have hD9 := hpd9.2
        refine W.widen (k := 0) (n := 0) (by omega) (by omega) ?_
        exact W.iret (v := 0) hx hb hr (fun t ht hW => ⟨⟨0, (pf, of, gf, yf, bf, ef, cf), rfl, trivial, by rw [ht]; exact hP9, va_K.moved hW.alike hK, hD9⟩, hS.F ht⟩) hS.2.2 dX12_count_110
    refine lv_tableOut (tgt := 130) hx hb dX12_count_22 (sw_out7 c_3 c_4 c_5 c_6 c_9 c_10 c_11) (by decide) ?_
    refine lv_bipush (v := -9) hx hb dX12_count_130 (by decide) ?_
    have hpd9 := pd_N (cx := [oX12 g0 m_refused m_kind m_figure m_weight m_got m_setting (nI n) (nI sn) dn m_tape m_letter m_letterAt m_told tp mat stm m_kept him ki crs m_price m_offer m_gets m_yes m_buys m_ends m_carried m_row rm m_keptRow m_likeGets m_likePrice m_ahead, cI aC m_kind 9 kf, cI aC m_figure 9 ff, cI aC m_weight 9 wf, cI aC m_setting 5 stf, cI aC m_price 81 pf, cI aC m_offer 81 of, cI aC m_gets 90 gf, cI aC m_yes 9 yf, cI aC m_buys 9 bf, cI aC m_ends 9 ef, cI aC m_carried 9 cf, cI aC m_refused 7 mr]) hP hD [0, 1, 2, 3, 4, 5, 6, 7, 8, 9, 10, 11, 12] (by decide) rfl
    have hP9 := hpd9.1
    have hD9 := hpd9.2
    refine W.widen (k := 0) (n := 0) (by omega) (by omega) ?_
    exact W.iret (v := -9) hx hb hr (fun t ht hW => ⟨⟨(-9), (pf, of, gf, yf, bf, ef, cf), rfl, trivial, by rw [ht]; exact hP9, va_K.moved hW.alike hK, hD9⟩, hS.F ht⟩) hS.2.2 dX12_count_132
  · have hi9 := isin_y hz_5 c_2
    refine lv_aload_n hx hb dX12_count_11 rfl (lv_at hl 0 rfl) ?_
    refine va_get (D := (dC, dI)) (ci := 12) (v := Value.ref m_refused) (C := RX12) (T := TX12) (N := 33) hx hb hts inX12 hown hK hP 0 rfl rfl 0 (by decide) (hts _ (gw kw_717 rfl)) (fun _ h9 => h9) rfl dX12_count_12 ?_
    refine lv_iload_n hx hb dX12_count_15 rfl (lv_at hl 1 rfl) ?_
    refine lv_bipush (v := 10) hx hb dX12_count_16 (by decide) ?_
    refine lv_isub hx hb dX12_count_18 ?_
    refine lv_topi (fun x_25 e_25 => ?_)
    have h_26 : vp_in x_25 7 := by obtain ⟨j, j1, j2⟩ := ix_of (n := 17) (by omega) (fun z => hi9.1 (Int32.lt_trans z (by decide))) (fun z => hi9.2 (Int32.lt_of_lt_of_le (by decide) z)); rw [e_25]; subst j2; have h7 : 11 ≤ j := Nat.le_of_not_lt fun z => hi9.1 (nI_lt (b := 11) z (by omega)); rw [show nI j - 10 = nI (j - 10) from pk_sub (a := j) (b := 10) (by omega)]; exact vp_in_nI (by omega) (by omega)
    refine va_iald hx hb hK hP 12 0 rfl rfl h_26 dX12_count_19 ?_
    refine lv_topi (fun x_27 e_27 => ?_)
    have hpd9 := pd_N (cx := [oX12 g0 m_refused m_kind m_figure m_weight m_got m_setting (nI n) (nI sn) dn m_tape m_letter m_letterAt m_told tp mat stm m_kept him ki crs m_price m_offer m_gets m_yes m_buys m_ends m_carried m_row rm m_keptRow m_likeGets m_likePrice m_ahead, cI aC m_kind 9 kf, cI aC m_figure 9 ff, cI aC m_weight 9 wf, cI aC m_setting 5 stf, cI aC m_price 81 pf, cI aC m_offer 81 of, cI aC m_gets 90 gf, cI aC m_yes 9 yf, cI aC m_buys 9 bf, cI aC m_ends 9 ef, cI aC m_carried 9 cf, cI aC m_refused 7 mr]) hP hD [0, 1, 2, 3, 4, 5, 6, 7, 8, 9, 10, 11, 12] (by decide) rfl
    have hP9 := hpd9.1
    have hD9 := hpd9.2
    refine W.widen (k := 0) (n := 0) (by omega) (by omega) ?_
    exact W.iret (v := x_27) hx hb hr (fun t ht hW => ⟨⟨x_27, (pf, of, gf, yf, bf, ef, cf), rfl, trivial, by rw [ht]; exact hP9, va_K.moved hW.alike hK, hD9⟩, hS.F ht⟩) hS.2.2 dX12_count_20
