set_option maxHeartbeats 1000000 in
set_option maxRecDepth 100000 in
/-- X12_bestAge -/
theorem c_X12_bestAge (l : Launch) (dC : Nat → ClassId) (dI : Nat → Nat → Nat) (aC : Nat → ClassId) (sz : Nat) (g0 : Nat) (m_refused : Nat) (m_kind : Nat) (m_figure : Nat) (m_weight : Nat) (m_got : Nat) (m_setting : Nat) (m_tape : Nat) (m_letter : Nat) (m_letterAt : Nat) (m_told : Nat) (m_kept : Nat) (m_price : Nat) (m_offer : Nat) (m_gets : Nat) (m_yes : Nat) (m_buys : Nat) (m_ends : Nat) (m_carried : Nat) (m_row : Nat) (m_keptRow : Nat) (m_likeGets : Nat) (m_likePrice : Nat) (m_ahead : Nat) (tp : Int32) (mat : Int32) (stm : Int32) (him : Int32) (ki : Int32) (crs : Int32) (rm : Int32) (n : Nat) (sn : Nat) (dn : Int32) (kf : Nat → Int32) (ff : Nat → Int32) (wf : Nat → Int32) (qf : Nat → Int32) (stf : Nat → Int32) (pf : Nat → Int32) (of : Nat → Int32) (gf : Nat → Int32) (yf : Nat → Int32) (bf : Nat → Int32) (ef : Nat → Int32) (cf : Nat → Int32) (K : Nat → Nat) (F : Nat → Nat) (W0 : Nat → Nat) (S5 : Nat → Nat) (mr : Nat → Int32) (kp : Nat → Int32) (i : Int32) (hev : EVS n sn dn K F W0 S5 kf ff wf stf) : Met l yX12_bestAge (wW yX12_bestAge cX12_bestAge 6 (some .int)) ({ frames := 5, cells := 0, slots := 0, locals := 115 } : Room) (va_Pc [Value.ref g0, Value.int i] (fun U => U.heap.size = sz ∧ va_P (dC, dI) classes [oX12 g0 m_refused m_kind m_figure m_weight m_got m_setting (nI n) (nI sn) dn m_tape m_letter m_letterAt m_told tp mat stm m_kept him ki crs m_price m_offer m_gets m_yes m_buys m_ends m_carried m_row rm m_keptRow m_likeGets m_likePrice m_ahead, cI aC m_kind 9 kf, cI aC m_figure 9 ff, cI aC m_weight 9 wf, cI aC m_got 8 qf, cI aC m_setting 5 stf, cI aC m_price 81 pf, cI aC m_offer 81 of, cI aC m_gets 90 gf, cI aC m_yes 9 yf, cI aC m_buys 9 bf, cI aC m_ends 9 ef, cI aC m_carried 9 cf, cI aC m_kept 100 kp, cI aC m_refused 7 mr] U.heap ∧ va_K (dC, dI) classes (TY aC) U ∧ va_D (fun _ => True) [oX12 g0 m_refused m_kind m_figure m_weight m_got m_setting (nI n) (nI sn) dn m_tape m_letter m_letterAt m_told tp mat stm m_kept him ki crs m_price m_offer m_gets m_yes m_buys m_ends m_carried m_row rm m_keptRow m_likeGets m_likePrice m_ahead, cI aC m_kind 9 kf, cI aC m_figure 9 ff, cI aC m_weight 9 wf, cI aC m_got 8 qf, cI aC m_setting 5 stf, cI aC m_price 81 pf, cI aC m_offer 81 of, cI aC m_gets 90 gf, cI aC m_yes 9 yf, cI aC m_buys 9 bf, cI aC m_ends 9 ef, cI aC m_carried 9 cf, cI aC m_kept 100 kp, cI aC m_refused 7 mr] ∧ NX U)) (va_Qi (fun (r : Int32) (u : Int32 × Int32 × (Nat → Int32) × (Nat → Int32) × (Nat → Int32) × (Nat → Int32) × (Nat → Int32) × (Nat → Int32) × (Nat → Int32) × (Nat → Int32) × (Nat → Int32) × (Nat → Int32) × (Nat → Int32) × (Nat → Int32) × (Nat → Int32) × (Nat → Int32)) => match u with | (ki2, cu2, kf2, ff2, wf2, qf2, stf2, pf2, of2, gf2, yf2, bf2, ef2, cf2, kq, mr2) => RS5 kf ff wf qf stf kf2 ff2 wf2 qf2 stf2 ∧ (∀ q, q < 50 → kq q = kp q) ∧ r = rBst n K F W0 S5 i) (fun (u : Int32 × Int32 × (Nat → Int32) × (Nat → Int32) × (Nat → Int32) × (Nat → Int32) × (Nat → Int32) × (Nat → Int32) × (Nat → Int32) × (Nat → Int32) × (Nat → Int32) × (Nat → Int32) × (Nat → Int32) × (Nat → Int32) × (Nat → Int32) × (Nat → Int32)) (t : State) => match u with | (ki2, cu2, kf2, ff2, wf2, qf2, stf2, pf2, of2, gf2, yf2, bf2, ef2, cf2, kq, mr2) => va_P (dC, dI) classes [oX12 g0 m_refused m_kind m_figure m_weight m_got m_setting (nI n) (nI sn) dn m_tape m_letter m_letterAt m_told tp mat stm m_kept him ki2 cu2 m_price m_offer m_gets m_yes m_buys m_ends m_carried m_row rm m_keptRow m_likeGets m_likePrice m_ahead, cI aC m_kind 9 kf2, cI aC m_figure 9 ff2, cI aC m_weight 9 wf2, cI aC m_got 8 qf2, cI aC m_setting 5 stf2, cI aC m_price 81 pf2, cI aC m_offer 81 of2, cI aC m_gets 90 gf2, cI aC m_yes 9 yf2, cI aC m_buys 9 bf2, cI aC m_ends 9 ef2, cI aC m_carried 9 cf2, cI aC m_kept 100 kq, cI aC m_refused 7 mr2] t.heap ∧ va_K (dC, dI) classes (TY aC) t ∧ va_D (va_A [oX12 g0 m_refused m_kind m_figure m_weight m_got m_setting (nI n) (nI sn) dn m_tape m_letter m_letterAt m_told tp mat stm m_kept him ki crs m_price m_offer m_gets m_yes m_buys m_ends m_carried m_row rm m_keptRow m_likeGets m_likePrice m_ahead, cI aC m_kind 9 kf, cI aC m_figure 9 ff, cI aC m_weight 9 wf, cI aC m_got 8 qf, cI aC m_setting 5 stf, cI aC m_price 81 pf, cI aC m_offer 81 of, cI aC m_gets 90 gf, cI aC m_yes 9 yf, cI aC m_buys 9 bf, cI aC m_ends 9 ef, cI aC m_carried 9 cf, cI aC m_kept 100 kp, cI aC m_refused 7 mr] sz) [oX12 g0 m_refused m_kind m_figure m_weight m_got m_setting (nI n) (nI sn) dn m_tape m_letter m_letterAt m_told tp mat stm m_kept him ki2 cu2 m_price m_offer m_gets m_yes m_buys m_ends m_carried m_row rm m_keptRow m_likeGets m_likePrice m_ahead, cI aC m_kind 9 kf2, cI aC m_figure 9 ff2, cI aC m_weight 9 wf2, cI aC m_got 8 qf2, cI aC m_setting 5 stf2, cI aC m_price 81 pf2, cI aC m_offer 81 of2, cI aC m_gets 90 gf2, cI aC m_yes 9 yf2, cI aC m_buys 9 bf2, cI aC m_ends 9 ef2, cI aC m_carried 9 cf2, cI aC m_kept 100 kq, cI aC m_refused 7 mr2]) (va_A [oX12 g0 m_refused m_kind m_figure m_weight m_got m_setting (nI n) (nI sn) dn m_tape m_letter m_letterAt m_told tp mat stm m_kept him ki crs m_price m_offer m_gets m_yes m_buys m_ends m_carried m_row rm m_keptRow m_likeGets m_likePrice m_ahead, cI aC m_kind 9 kf, cI aC m_figure 9 ff, cI aC m_weight 9 wf, cI aC m_got 8 qf, cI aC m_setting 5 stf, cI aC m_price 81 pf, cI aC m_offer 81 of, cI aC m_gets 90 gf, cI aC m_yes 9 yf, cI aC m_buys 9 bf, cI aC m_ends 9 ef, cI aC m_carried 9 cf, cI aC m_kept 100 kp, cI aC m_refused 7 mr] sz)) 0 0 (va_A [oX12 g0 m_refused m_kind m_figure m_weight m_got m_setting (nI n) (nI sn) dn m_tape m_letter m_letterAt m_told tp mat stm m_kept him ki crs m_price m_offer m_gets m_yes m_buys m_ends m_carried m_row rm m_keptRow m_likeGets m_likePrice m_ahead, cI aC m_kind 9 kf, cI aC m_figure 9 ff, cI aC m_weight 9 wf, cI aC m_got 8 qf, cI aC m_setting 5 stf, cI aC m_price 81 pf, cI aC m_offer 81 of, cI aC m_gets 90 gf, cI aC m_yes 9 yf, cI aC m_buys 9 bf, cI aC m_ends 9 ef, cI aC m_carried 9 cf, cI aC m_kept 100 kp, cI aC m_refused 7 mr] sz) := by
  refine Met.ofW (cc := cX12_bestAge) (maxL := 6) (ret := (some .int)) (by decide) rfl ?_
  intro p e s m args below meth c s₁ B hml hv
  obtain ⟨rfl, hsz, hP, hK, hD0, hN⟩ := hv
  have hx := B.exec
  have hb := B.bytes
  have hr := B.returns
  have hts0 := atoms_spec (ws := (wW yX12_bestAge cX12_bestAge 6 (some .int))) B.pre
  have hts : ∀ w9 ∈ lw_G, w9.before ([Value.ref g0, Value.int i] : List Value).toArray s = true := fun w9 h9 => hts0 w9 (List.mem_cons_of_mem _ h9)
  have hown : s.vm.findClass RX12 = some m.cls := findClass_of_methodNamed (x := yX12_bestAge) B.named
  have hlocks := B.notSynchronized
  subst hsz
  have hD := hD0.self (sz := s.heap.size)
  generalize hAe : va_A [oX12 g0 m_refused m_kind m_figure m_weight m_got m_setting (nI n) (nI sn) dn m_tape m_letter m_letterAt m_told tp mat stm m_kept him ki crs m_price m_offer m_gets m_yes m_buys m_ends m_carried m_row rm m_keptRow m_likeGets m_likePrice m_ahead, cI aC m_kind 9 kf, cI aC m_figure 9 ff, cI aC m_weight 9 wf, cI aC m_got 8 qf, cI aC m_setting 5 stf, cI aC m_price 81 pf, cI aC m_offer 81 of, cI aC m_gets 90 gf, cI aC m_yes 9 yf, cI aC m_buys 9 bf, cI aC m_ends 9 ef, cI aC m_carried 9 cf, cI aC m_kept 100 kp, cI aC m_refused 7 mr] s.heap.size = A at hD ⊢
  have hA : ∀ q : Nat, s.heap.size ≤ q → A q := fun q h => by rw [← hAe]; exact Or.inr h
  obtain ⟨H, hHe⟩ : ∃ H : Heap, H = s.heap := ⟨_, rfl⟩
  have hS : va_S A s.heap H [] := by rw [hHe]; exact va_S.rf
  have hP : va_P (dC, dI) classes [oX12 g0 m_refused m_kind m_figure m_weight m_got m_setting (nI n) (nI sn) dn m_tape m_letter m_letterAt m_told tp mat stm m_kept him ki crs m_price m_offer m_gets m_yes m_buys m_ends m_carried m_row rm m_keptRow m_likeGets m_likePrice m_ahead, cI aC m_kind 9 kf, cI aC m_figure 9 ff, cI aC m_weight 9 wf, cI aC m_got 8 qf, cI aC m_setting 5 stf, cI aC m_price 81 pf, cI aC m_offer 81 of, cI aC m_gets 90 gf, cI aC m_yes 9 yf, cI aC m_buys 9 bf, cI aC m_ends 9 ef, cI aC m_carried 9 cf, cI aC m_kept 100 kp, cI aC m_refused 7 mr] H := by rw [hHe]; exact hP
  have hl := lv_entry ([Value.ref g0, Value.int i]) (n := 6) (Nat.le_of_ble_eq_true rfl)
  rw [lg_entry_eq]
  generalize (lg_sl ([Value.ref g0, Value.int i]) ++ List.replicate (6 - (lg_sl ([Value.ref g0, Value.int i])).length) Slot.unset).toArray = ls at hl ⊢
  have hl : lv_has ls 6 [(0, Value.ref g0), (1, Value.int i)] := hl
  rw [← hHe]
  have hn8 := EVS_n hev
  refine lv_aload_n hx hb dX12_bestAge_0 rfl (lv_at hl 0 rfl) ?_
  refine lv_iload_n hx hb dX12_bestAge_1 rfl (lv_at hl 1 rfl) ?_
  have hpd9 := pdf_N (cx := [oX12 g0 m_refused m_kind m_figure m_weight m_got m_setting (nI n) (nI sn) dn m_tape m_letter m_letterAt m_told tp mat stm m_kept him ki crs m_price m_offer m_gets m_yes m_buys m_ends m_carried m_row rm m_keptRow m_likeGets m_likePrice m_ahead]) hP hD hS hA [0] (by decide) rfl
  have hPc := hpd9.1
  have hDc := hpd9.2.1
  have hFc := hpd9.2.2
  clear hpd9
  refine va_calli (va_runV (As := [Value.int i]) (rest := []) ⟨hx, hb, hml, hown, hts⟩ (c_X12_isMan l dC dI aC H.size g0 m_refused m_kind m_figure m_weight m_got m_setting m_tape m_letter m_letterAt m_told m_kept m_price m_offer m_gets m_yes m_buys m_ends m_carried m_row m_keptRow m_likeGets m_likePrice m_ahead (nI n) (nI sn) dn tp mat stm him ki crs rm i ) ⟨(callB_of 1 hts (gG kw_878) rfl rfl rfl (hts _ (gw kw_13 rfl)) (hts _ (gw kw_875 rfl)) hd_X12_isMan ⟨Nat.le_of_ble_eq_true rfl, Nat.le_of_ble_eq_true rfl⟩), (hts _ (gw kw_877 rfl)), (hts _ (gw ks_43 rfl))⟩ ⟨fb_std, va_recv (q := (RX12, TX12, 33)) hK hPc (ci := 12) (q0 := 0) rfl rfl, pre_std hPc hK hDc hN⟩ rfl rfl hl.1 rfl (lv_room (Nat.le_of_ble_eq_true rfl)) dX12_bestAge_2 ⟨Nat.le_of_ble_eq_true rfl, Nat.le_of_ble_eq_true rfl⟩) hS (fun q _ h => hFc q h) hFc (fun x_1 u9 t9 H1 locs ht hvm hw_1 hB hz1 hk1 hS => ?_)
  obtain ⟨hP1, hK1, hD1⟩ := hB
  rw [ht] at hP1
  clear hK1
  try dsimp only at hw_1
  have hpd9 : PDx (dC, dI) classes A H1 [cI aC m_kind 9 kf, cI aC m_figure 9 ff, cI aC m_weight 9 wf, cI aC m_got 8 qf, cI aC m_setting 5 stf, cI aC m_price 81 pf, cI aC m_offer 81 of, cI aC m_gets 90 gf, cI aC m_yes 9 yf, cI aC m_buys 9 bf, cI aC m_ends 9 ef, cI aC m_carried 9 cf, cI aC m_kept 100 kp, cI aC m_refused 7 mr, oX12 g0 m_refused m_kind m_figure m_weight m_got m_setting (nI n) (nI sn) dn m_tape m_letter m_letterAt m_told tp mat stm m_kept him ki crs m_price m_offer m_gets m_yes m_buys m_ends m_carried m_row rm m_keptRow m_likeGets m_likePrice m_ahead] := jn_N (wr := [cI aC m_kind 9 kf, cI aC m_figure 9 ff, cI aC m_weight 9 wf, cI aC m_got 8 qf, cI aC m_setting 5 stf, cI aC m_price 81 pf, cI aC m_offer 81 of, cI aC m_gets 90 gf, cI aC m_yes 9 yf, cI aC m_buys 9 bf, cI aC m_ends 9 ef, cI aC m_carried 9 cf, cI aC m_kept 100 kp, cI aC m_refused 7 mr]) hFc hk1 hP1 hD1 hP hD [0] [1, 2, 3, 4, 5, 6, 7, 8, 9, 10, 11, 12, 13, 14] rfl rfl (by decide) (by decide)
  have hP := hpd9.1
  have hD := hpd9.2
  clear hpd9
  generalize H1 = H at hP hS ⊢
  clear hPc hDc hFc hz1 hk1 hP1 hD1 ht hvm
  have hz_2 := hw_1
  refine lv_if_ne (tgt := 14) hx hb dX12_bestAge_5 (by decide) (fun c_2 => ?_) (fun c_2 => ?_)
  · obtain ⟨a, ha8, ha9⟩ := OKI_ix hn8 (has_y hz_2 c_2)
    have hl : lv_has ls 6 [(0, Value.ref g0), (1, Value.int (nI a))] := by rw [← ha9]; exact hl
    refine lv_iconst (v := 0) hx hb dX12_bestAge_14 (by decide) ?_
    refine lv_istore_n (lv' := [(2, Value.int 0), (0, Value.ref g0), (1, Value.int (nI a))]) hx hb dX12_bestAge_15 rfl hl (by decide) rfl (fun ls hl => ?_)
    refine lv_bipush (v := -2) hx hb dX12_bestAge_16 (by decide) ?_
    refine lv_istore_n (lv' := [(3, Value.int (-2)), (2, Value.int 0), (0, Value.ref g0), (1, Value.int (nI a))]) hx hb dX12_bestAge_18 rfl hl (by decide) rfl (fun ls hl => ?_)
    refine lv_iconst (v := 0) hx hb dX12_bestAge_19 (by decide) ?_
    refine lv_istore (lv' := [(4, Value.int 0), (3, Value.int (-2)), (2, Value.int 0), (0, Value.ref g0), (1, Value.int (nI a))]) hx hb dX12_bestAge_20 hl (by decide) rfl (fun ls hl => ?_)
    have lp_22 : ∀ (fu : Nat) (j : Nat) (x2 : Int32) (x3 : Int32) (kic : Int32) (cuc : Int32) (kfc : Nat → Int32) (ffc : Nat → Int32) (wfc : Nat → Int32) (qfc : Nat → Int32) (stfc : Nat → Int32) (pfc : Nat → Int32) (ofc : Nat → Int32) (gfc : Nat → Int32) (yfc : Nat → Int32) (bfc : Nat → Int32) (efc : Nat → Int32) (cfc : Nat → Int32) (kpc : Nat → Int32) (hfu : n - j < fu) (hj : j ≤ n) (hbi : (j = 0 ∧ x2 = 0 ∧ x3 = -2) ∨ (1 ≤ j ∧ x2 = nI (bsf (bV n K F W0 S5 a) j).1 ∧ x3 = (bsf (bV n K F W0 S5 a) j).2)) (hrs : RS5 kf ff wf qf stf kfc ffc wfc qfc stfc) (hkp : ∀ q, q < 50 → kpc q = kp q) (H : Heap) (locs : List Loc) (ls : Array Slot), va_P (dC, dI) classes [cI aC m_kind 9 kfc, cI aC m_figure 9 ffc, cI aC m_weight 9 wfc, cI aC m_got 8 qfc, cI aC m_setting 5 stfc, cI aC m_price 81 pfc, cI aC m_offer 81 ofc, cI aC m_gets 90 gfc, cI aC m_yes 9 yfc, cI aC m_buys 9 bfc, cI aC m_ends 9 efc, cI aC m_carried 9 cfc, cI aC m_kept 100 kpc, cI aC m_refused 7 mr, oX12 g0 m_refused m_kind m_figure m_weight m_got m_setting (nI n) (nI sn) dn m_tape m_letter m_letterAt m_told tp mat stm m_kept him kic cuc m_price m_offer m_gets m_yes m_buys m_ends m_carried m_row rm m_keptRow m_likeGets m_likePrice m_ahead] H → va_D A [cI aC m_kind 9 kfc, cI aC m_figure 9 ffc, cI aC m_weight 9 wfc, cI aC m_got 8 qfc, cI aC m_setting 5 stfc, cI aC m_price 81 pfc, cI aC m_offer 81 ofc, cI aC m_gets 90 gfc, cI aC m_yes 9 yfc, cI aC m_buys 9 bfc, cI aC m_ends 9 efc, cI aC m_carried 9 cfc, cI aC m_kept 100 kpc, cI aC m_refused 7 mr, oX12 g0 m_refused m_kind m_figure m_weight m_got m_setting (nI n) (nI sn) dn m_tape m_letter m_letterAt m_told tp mat stm m_kept him kic cuc m_price m_offer m_gets m_yes m_buys m_ends m_carried m_row rm m_keptRow m_likeGets m_likePrice m_ahead] → va_S A s.heap H locs → lv_has ls 6 [(0, Value.ref g0), (1, Value.int (nI a)), (2, Value.int x2), (3, Value.int x3), (4, Value.int (nI j))] → W p l e (headSpec (wW yX12_bestAge cX12_bestAge 6 (some .int)) ({ frames := 5, cells := 0, slots := 0, locals := 115 } : Room)).room s m ([Value.ref g0, Value.int i] : List Value).toArray below meth c H locs 0 0 (MQ below (va_Qi (fun (r : Int32) (u : Int32 × Int32 × (Nat → Int32) × (Nat → Int32) × (Nat → Int32) × (Nat → Int32) × (Nat → Int32) × (Nat → Int32) × (Nat → Int32) × (Nat → Int32) × (Nat → Int32) × (Nat → Int32) × (Nat → Int32) × (Nat → Int32) × (Nat → Int32) × (Nat → Int32)) => match u with | (ki2, cu2, kf2, ff2, wf2, qf2, stf2, pf2, of2, gf2, yf2, bf2, ef2, cf2, kq, mr2) => RS5 kf ff wf qf stf kf2 ff2 wf2 qf2 stf2 ∧ (∀ q, q < 50 → kq q = kp q) ∧ r = rBst n K F W0 S5 i) (fun (u : Int32 × Int32 × (Nat → Int32) × (Nat → Int32) × (Nat → Int32) × (Nat → Int32) × (Nat → Int32) × (Nat → Int32) × (Nat → Int32) × (Nat → Int32) × (Nat → Int32) × (Nat → Int32) × (Nat → Int32) × (Nat → Int32) × (Nat → Int32) × (Nat → Int32)) (t : State) => match u with | (ki2, cu2, kf2, ff2, wf2, qf2, stf2, pf2, of2, gf2, yf2, bf2, ef2, cf2, kq, mr2) => va_P (dC, dI) classes [oX12 g0 m_refused m_kind m_figure m_weight m_got m_setting (nI n) (nI sn) dn m_tape m_letter m_letterAt m_told tp mat stm m_kept him ki2 cu2 m_price m_offer m_gets m_yes m_buys m_ends m_carried m_row rm m_keptRow m_likeGets m_likePrice m_ahead, cI aC m_kind 9 kf2, cI aC m_figure 9 ff2, cI aC m_weight 9 wf2, cI aC m_got 8 qf2, cI aC m_setting 5 stf2, cI aC m_price 81 pf2, cI aC m_offer 81 of2, cI aC m_gets 90 gf2, cI aC m_yes 9 yf2, cI aC m_buys 9 bf2, cI aC m_ends 9 ef2, cI aC m_carried 9 cf2, cI aC m_kept 100 kq, cI aC m_refused 7 mr2] t.heap ∧ va_K (dC, dI) classes (TY aC) t ∧ va_D A [oX12 g0 m_refused m_kind m_figure m_weight m_got m_setting (nI n) (nI sn) dn m_tape m_letter m_letterAt m_told tp mat stm m_kept him ki2 cu2 m_price m_offer m_gets m_yes m_buys m_ends m_carried m_row rm m_keptRow m_likeGets m_likePrice m_ahead, cI aC m_kind 9 kf2, cI aC m_figure 9 ff2, cI aC m_weight 9 wf2, cI aC m_got 8 qf2, cI aC m_setting 5 stf2, cI aC m_price 81 pf2, cI aC m_offer 81 of2, cI aC m_gets 90 gf2, cI aC m_yes 9 yf2, cI aC m_buys 9 bf2, cI aC m_ends 9 ef2, cI aC m_carried 9 cf2, cI aC m_kept 100 kq, cI aC m_refused 7 mr2]) A) ([Value.ref g0, Value.int i] : List Value).toArray s 0 0 A) (F0 m 22 ls []) := by
      intro fu
      induction fu with
      | zero => intro j x2 x3 kic cuc kfc ffc wfc qfc stfc pfc ofc gfc yfc bfc efc cfc kpc hfu; exact absurd hfu (Nat.not_lt_zero _)
      | succ fu ih_22 =>
        intro j x2 x3 kic cuc kfc ffc wfc qfc stfc pfc ofc gfc yfc bfc efc cfc kpc hfu hj hbi hrs hkp H locs ls hP hD hS hl
        refine lv_iload hx hb dX12_bestAge_22 (lv_at hl 4 rfl) ?_
        refine lv_aload_n hx hb dX12_bestAge_24 rfl (lv_at hl 0 rfl) ?_
        refine va_get (D := (dC, dI)) (ci := 12) (v := Value.int (nI n)) (C := RX12) (T := TX12) (N := 33) hx hb hts inX12 hown hK hP 14 rfl rfl 6 (by decide) (hts _ (gw kw_723 rfl)) (fun _ h9 => h9) rfl dX12_bestAge_25 ?_
        refine lv_icmp_ge (tgt := 127) hx hb dX12_bestAge_28 (by decide) (fun c_3 => ?_) (fun c_3 => ?_)
        · have hjn : j = n := by
            rcases Nat.lt_or_ge j n with q | q
            · exact absurd c_3 (nI_ge q (by omega))
            · omega
          have hr9 : x2 = rBst n K F W0 S5 i := by
            unfold rBst
            rw [if_pos (has_y hz_2 c_2), ha9, nI_clamp (by omega)]
            rcases hbi with ⟨h1, h2, h3⟩ | ⟨h1, h2, h3⟩
            · omega
            · rw [h2, hjn]
          refine lv_iload_n hx hb dX12_bestAge_127 rfl (lv_at hl 2 rfl) ?_
          have hpd9 := pd_N (cx := [oX12 g0 m_refused m_kind m_figure m_weight m_got m_setting (nI n) (nI sn) dn m_tape m_letter m_letterAt m_told tp mat stm m_kept him kic cuc m_price m_offer m_gets m_yes m_buys m_ends m_carried m_row rm m_keptRow m_likeGets m_likePrice m_ahead, cI aC m_kind 9 kfc, cI aC m_figure 9 ffc, cI aC m_weight 9 wfc, cI aC m_got 8 qfc, cI aC m_setting 5 stfc, cI aC m_price 81 pfc, cI aC m_offer 81 ofc, cI aC m_gets 90 gfc, cI aC m_yes 9 yfc, cI aC m_buys 9 bfc, cI aC m_ends 9 efc, cI aC m_carried 9 cfc, cI aC m_kept 100 kpc, cI aC m_refused 7 mr]) hP hD [14, 0, 1, 2, 3, 4, 5, 6, 7, 8, 9, 10, 11, 12, 13] (by decide) rfl
          have hP9 := hpd9.1
          have hD9 := hpd9.2
          refine W.widen (k := 0) (n := 0) (by omega) (by omega) ?_
          exact W.iret (v := x2) hx hb hr (fun t ht hW => ⟨⟨x2, (kic, cuc, kfc, ffc, wfc, qfc, stfc, pfc, ofc, gfc, yfc, bfc, efc, cfc, kpc, mr), rfl, ⟨hrs, hkp, hr9⟩, by rw [ht]; exact hP9, va_K.moved hW.alike hK, hD9⟩, hS.F ht⟩) hS.2.2 dX12_bestAge_128
        · have hlt : j < n := by
            rcases Nat.lt_or_ge j n with q | q
            · exact q
            · exact absurd (nI_le q (by omega)) c_3
          have hevc := RS5_ev hev hrs
          refine lv_aload_n hx hb dX12_bestAge_31 rfl (lv_at hl 0 rfl) ?_
          refine lv_iconst (v := 1) hx hb dX12_bestAge_32 (by decide) ?_
          refine lv_iconst (v := 1) hx hb dX12_bestAge_33 (by decide) ?_
          have hpd9 := pdf_N (cx := [oX12 g0 m_refused m_kind m_figure m_weight m_got m_setting (nI n) (nI sn) dn m_tape m_letter m_letterAt m_told tp mat stm m_kept him kic cuc m_price m_offer m_gets m_yes m_buys m_ends m_carried m_row rm m_keptRow m_likeGets m_likePrice m_ahead, cI aC m_kept 100 kpc, cI aC m_kind 9 kfc, cI aC m_figure 9 ffc, cI aC m_weight 9 wfc, cI aC m_got 8 qfc, cI aC m_setting 5 stfc]) hP hD hS hA [14, 12, 0, 1, 2, 3, 4] (by decide) rfl
          have hPc := hpd9.1
          have hDc := hpd9.2.1
          have hFc := hpd9.2.2
          clear hpd9
          refine va_callv (va_runV (As := [Value.int 1, Value.int 1]) (rest := []) ⟨hx, hb, hml, hown, hts⟩ (c_X12_passesAll_k l dC dI aC H.size g0 m_refused m_kind m_figure m_weight m_got m_setting m_tape m_letter m_letterAt m_told m_kept m_price m_offer m_gets m_yes m_buys m_ends m_carried m_row m_keptRow m_likeGets m_likePrice m_ahead (nI n) (nI sn) dn tp mat stm him kic cuc rm kpc 1 kfc ffc wfc qfc stfc (by omega)) ⟨(callB_of 2 hts (gG kw_850) rfl rfl rfl (hts _ (gw kw_13 rfl)) (hts _ (gw kw_847 rfl)) hd_X12_passesAll ⟨Nat.le_of_ble_eq_true rfl, Nat.le_of_ble_eq_true rfl⟩), (hts _ (gw kw_849 rfl)), (hts _ (gw ks_39 rfl))⟩ ⟨fb_std, va_recv (q := (RX12, TX12, 33)) hK hPc (ci := 12) (q0 := 0) rfl rfl, pre_std hPc hK hDc hN⟩ rfl rfl hl.1 rfl (lv_room (Nat.le_of_ble_eq_true rfl)) dX12_bestAge_34 ⟨Nat.le_of_ble_eq_true rfl, Nat.le_of_ble_eq_true rfl⟩) hS (fun q _ h => hFc q h) hFc (fun u9 t9 H1 locs ht hvm hw_4 hB hz1 hk1 hS => ?_)
          obtain ⟨u_5, u_6⟩ := u9
          obtain ⟨hP1, hK1, hD1⟩ := hB
          rw [ht] at hP1
          clear hK1
          try dsimp only at hw_4
          have hpd9 : PDx (dC, dI) classes A H1 [cI aC m_price 81 pfc, cI aC m_offer 81 ofc, cI aC m_gets 90 gfc, cI aC m_yes 9 yfc, cI aC m_buys 9 bfc, cI aC m_ends 9 efc, cI aC m_carried 9 cfc, cI aC m_refused 7 mr, oX12 g0 m_refused m_kind m_figure m_weight m_got m_setting (nI n) (nI sn) dn m_tape m_letter m_letterAt m_told tp mat stm m_kept him 1 u_5 m_price m_offer m_gets m_yes m_buys m_ends m_carried m_row rm m_keptRow m_likeGets m_likePrice m_ahead, cI aC m_kept 100 u_6, cI aC m_kind 9 kfc, cI aC m_figure 9 ffc, cI aC m_weight 9 wfc, cI aC m_got 8 qfc, cI aC m_setting 5 stfc] := jn_N (wr := [cI aC m_price 81 pfc, cI aC m_offer 81 ofc, cI aC m_gets 90 gfc, cI aC m_yes 9 yfc, cI aC m_buys 9 bfc, cI aC m_ends 9 efc, cI aC m_carried 9 cfc, cI aC m_refused 7 mr]) hFc hk1 hP1 hD1 hP hD [14, 12, 0, 1, 2, 3, 4] [5, 6, 7, 8, 9, 10, 11, 13] rfl rfl (by decide) (by decide)
          have hP := hpd9.1
          have hD := hpd9.2
          clear hpd9
          generalize H1 = H at hP hS ⊢
          clear hPc hDc hFc hz1 hk1 hP1 hD1 ht hvm
          obtain ⟨hpk, hpq⟩ := hw_4
          refine lv_iload_n hx hb dX12_bestAge_37 rfl (lv_at hl 1 rfl) ?_
          refine lv_istore (lv' := [(5, Value.int (nI a)), (0, Value.ref g0), (1, Value.int (nI a)), (2, Value.int x2), (3, Value.int x3), (4, Value.int (nI j))]) hx hb dX12_bestAge_38 hl (by decide) rfl (fun ls hl => ?_)
          have lp_40 : ∀ (fu : Nat) (k : Nat) (kd : Nat → Int32) (fd : Nat → Int32) (wd : Nat → Int32) (hfu : n - k < fu) (hk : a ≤ k ∧ k < n ∧ (k ≤ j ∨ k = a)) (hs0 : ∀ q, q < 8 → kd q = kfc (bo a k q)) (hs1 : ∀ q, q < 8 → fd q = ffc (bo a k q)) (hs2 : ∀ q, q < 8 → wd q = wfc (bo a k q)) (H : Heap) (locs : List Loc) (ls : Array Slot), va_P (dC, dI) classes [cI aC m_price 81 pfc, cI aC m_offer 81 ofc, cI aC m_gets 90 gfc, cI aC m_yes 9 yfc, cI aC m_buys 9 bfc, cI aC m_ends 9 efc, cI aC m_carried 9 cfc, cI aC m_refused 7 mr, oX12 g0 m_refused m_kind m_figure m_weight m_got m_setting (nI n) (nI sn) dn m_tape m_letter m_letterAt m_told tp mat stm m_kept him 1 u_5 m_price m_offer m_gets m_yes m_buys m_ends m_carried m_row rm m_keptRow m_likeGets m_likePrice m_ahead, cI aC m_kept 100 u_6, cI aC m_kind 9 kd, cI aC m_figure 9 fd, cI aC m_weight 9 wd, cI aC m_got 8 qfc, cI aC m_setting 5 stfc] H → va_D A [cI aC m_price 81 pfc, cI aC m_offer 81 ofc, cI aC m_gets 90 gfc, cI aC m_yes 9 yfc, cI aC m_buys 9 bfc, cI aC m_ends 9 efc, cI aC m_carried 9 cfc, cI aC m_refused 7 mr, oX12 g0 m_refused m_kind m_figure m_weight m_got m_setting (nI n) (nI sn) dn m_tape m_letter m_letterAt m_told tp mat stm m_kept him 1 u_5 m_price m_offer m_gets m_yes m_buys m_ends m_carried m_row rm m_keptRow m_likeGets m_likePrice m_ahead, cI aC m_kept 100 u_6, cI aC m_kind 9 kd, cI aC m_figure 9 fd, cI aC m_weight 9 wd, cI aC m_got 8 qfc, cI aC m_setting 5 stfc] → va_S A s.heap H locs → lv_has ls 6 [(0, Value.ref g0), (1, Value.int (nI a)), (2, Value.int x2), (3, Value.int x3), (4, Value.int (nI j)), (5, Value.int (nI k))] → W p l e (headSpec (wW yX12_bestAge cX12_bestAge 6 (some .int)) ({ frames := 5, cells := 0, slots := 0, locals := 115 } : Room)).room s m ([Value.ref g0, Value.int i] : List Value).toArray below meth c H locs 0 0 (MQ below (va_Qi (fun (r : Int32) (u : Int32 × Int32 × (Nat → Int32) × (Nat → Int32) × (Nat → Int32) × (Nat → Int32) × (Nat → Int32) × (Nat → Int32) × (Nat → Int32) × (Nat → Int32) × (Nat → Int32) × (Nat → Int32) × (Nat → Int32) × (Nat → Int32) × (Nat → Int32) × (Nat → Int32)) => match u with | (ki2, cu2, kf2, ff2, wf2, qf2, stf2, pf2, of2, gf2, yf2, bf2, ef2, cf2, kq, mr2) => RS5 kf ff wf qf stf kf2 ff2 wf2 qf2 stf2 ∧ (∀ q, q < 50 → kq q = kp q) ∧ r = rBst n K F W0 S5 i) (fun (u : Int32 × Int32 × (Nat → Int32) × (Nat → Int32) × (Nat → Int32) × (Nat → Int32) × (Nat → Int32) × (Nat → Int32) × (Nat → Int32) × (Nat → Int32) × (Nat → Int32) × (Nat → Int32) × (Nat → Int32) × (Nat → Int32) × (Nat → Int32) × (Nat → Int32)) (t : State) => match u with | (ki2, cu2, kf2, ff2, wf2, qf2, stf2, pf2, of2, gf2, yf2, bf2, ef2, cf2, kq, mr2) => va_P (dC, dI) classes [oX12 g0 m_refused m_kind m_figure m_weight m_got m_setting (nI n) (nI sn) dn m_tape m_letter m_letterAt m_told tp mat stm m_kept him ki2 cu2 m_price m_offer m_gets m_yes m_buys m_ends m_carried m_row rm m_keptRow m_likeGets m_likePrice m_ahead, cI aC m_kind 9 kf2, cI aC m_figure 9 ff2, cI aC m_weight 9 wf2, cI aC m_got 8 qf2, cI aC m_setting 5 stf2, cI aC m_price 81 pf2, cI aC m_offer 81 of2, cI aC m_gets 90 gf2, cI aC m_yes 9 yf2, cI aC m_buys 9 bf2, cI aC m_ends 9 ef2, cI aC m_carried 9 cf2, cI aC m_kept 100 kq, cI aC m_refused 7 mr2] t.heap ∧ va_K (dC, dI) classes (TY aC) t ∧ va_D A [oX12 g0 m_refused m_kind m_figure m_weight m_got m_setting (nI n) (nI sn) dn m_tape m_letter m_letterAt m_told tp mat stm m_kept him ki2 cu2 m_price m_offer m_gets m_yes m_buys m_ends m_carried m_row rm m_keptRow m_likeGets m_likePrice m_ahead, cI aC m_kind 9 kf2, cI aC m_figure 9 ff2, cI aC m_weight 9 wf2, cI aC m_got 8 qf2, cI aC m_setting 5 stf2, cI aC m_price 81 pf2, cI aC m_offer 81 of2, cI aC m_gets 90 gf2, cI aC m_yes 9 yf2, cI aC m_buys 9 bf2, cI aC m_ends 9 ef2, cI aC m_carried 9 cf2, cI aC m_kept 100 kq, cI aC m_refused 7 mr2]) A) ([Value.ref g0, Value.int i] : List Value).toArray s 0 0 A) (F0 m 40 ls []) := by
            intro fu
            induction fu with
            | zero => intro k kd fd wd hfu; exact absurd hfu (Nat.not_lt_zero _)
            | succ fu ih_40 =>
              intro k kd fd wd hfu hk hs0 hs1 hs2 H locs ls hP hD hS hl
              refine lv_iload hx hb dX12_bestAge_40 (lv_at hl 5 rfl) ?_
              refine lv_iload hx hb dX12_bestAge_42 (lv_at hl 4 rfl) ?_
              refine lv_icmp_ge (tgt := 63) hx hb dX12_bestAge_44 (by decide) (fun c_7 => ?_) (fun c_7 => ?_)
              · have hkj : j ≤ k := (nI_leI (by omega) (by omega)).mp c_7
                refine lv_iload_n hx hb dX12_bestAge_63 rfl (lv_at hl 1 rfl) ?_
                refine lv_istore (lv' := [(5, Value.int (nI a)), (0, Value.ref g0), (1, Value.int (nI a)), (2, Value.int x2), (3, Value.int x3), (4, Value.int (nI j))]) hx hb dX12_bestAge_64 hl (by decide) rfl (fun ls hl => ?_)
                have lp_66 : ∀ (fu : Nat) (k : Nat) (kdb : Nat → Int32) (fdb : Nat → Int32) (wdb : Nat → Int32) (hfu : k < fu) (hk9 : k ≤ a ∧ (j ≤ k ∨ a < j)) (hs0 : ∀ q, q < 8 → kdb q = kfc (bo a (if a < j then j else k) q)) (hs1 : ∀ q, q < 8 → fdb q = ffc (bo a (if a < j then j else k) q)) (hs2 : ∀ q, q < 8 → wdb q = wfc (bo a (if a < j then j else k) q)) (H : Heap) (locs : List Loc) (ls : Array Slot), va_P (dC, dI) classes [cI aC m_price 81 pfc, cI aC m_offer 81 ofc, cI aC m_gets 90 gfc, cI aC m_yes 9 yfc, cI aC m_buys 9 bfc, cI aC m_ends 9 efc, cI aC m_carried 9 cfc, cI aC m_refused 7 mr, oX12 g0 m_refused m_kind m_figure m_weight m_got m_setting (nI n) (nI sn) dn m_tape m_letter m_letterAt m_told tp mat stm m_kept him 1 u_5 m_price m_offer m_gets m_yes m_buys m_ends m_carried m_row rm m_keptRow m_likeGets m_likePrice m_ahead, cI aC m_kept 100 u_6, cI aC m_kind 9 kdb, cI aC m_figure 9 fdb, cI aC m_weight 9 wdb, cI aC m_got 8 qfc, cI aC m_setting 5 stfc] H → va_D A [cI aC m_price 81 pfc, cI aC m_offer 81 ofc, cI aC m_gets 90 gfc, cI aC m_yes 9 yfc, cI aC m_buys 9 bfc, cI aC m_ends 9 efc, cI aC m_carried 9 cfc, cI aC m_refused 7 mr, oX12 g0 m_refused m_kind m_figure m_weight m_got m_setting (nI n) (nI sn) dn m_tape m_letter m_letterAt m_told tp mat stm m_kept him 1 u_5 m_price m_offer m_gets m_yes m_buys m_ends m_carried m_row rm m_keptRow m_likeGets m_likePrice m_ahead, cI aC m_kept 100 u_6, cI aC m_kind 9 kdb, cI aC m_figure 9 fdb, cI aC m_weight 9 wdb, cI aC m_got 8 qfc, cI aC m_setting 5 stfc] → va_S A s.heap H locs → lv_has ls 6 [(0, Value.ref g0), (1, Value.int (nI a)), (2, Value.int x2), (3, Value.int x3), (4, Value.int (nI j)), (5, Value.int (nI k))] → W p l e (headSpec (wW yX12_bestAge cX12_bestAge 6 (some .int)) ({ frames := 5, cells := 0, slots := 0, locals := 115 } : Room)).room s m ([Value.ref g0, Value.int i] : List Value).toArray below meth c H locs 0 0 (MQ below (va_Qi (fun (r : Int32) (u : Int32 × Int32 × (Nat → Int32) × (Nat → Int32) × (Nat → Int32) × (Nat → Int32) × (Nat → Int32) × (Nat → Int32) × (Nat → Int32) × (Nat → Int32) × (Nat → Int32) × (Nat → Int32) × (Nat → Int32) × (Nat → Int32) × (Nat → Int32) × (Nat → Int32)) => match u with | (ki2, cu2, kf2, ff2, wf2, qf2, stf2, pf2, of2, gf2, yf2, bf2, ef2, cf2, kq, mr2) => RS5 kf ff wf qf stf kf2 ff2 wf2 qf2 stf2 ∧ (∀ q, q < 50 → kq q = kp q) ∧ r = rBst n K F W0 S5 i) (fun (u : Int32 × Int32 × (Nat → Int32) × (Nat → Int32) × (Nat → Int32) × (Nat → Int32) × (Nat → Int32) × (Nat → Int32) × (Nat → Int32) × (Nat → Int32) × (Nat → Int32) × (Nat → Int32) × (Nat → Int32) × (Nat → Int32) × (Nat → Int32) × (Nat → Int32)) (t : State) => match u with | (ki2, cu2, kf2, ff2, wf2, qf2, stf2, pf2, of2, gf2, yf2, bf2, ef2, cf2, kq, mr2) => va_P (dC, dI) classes [oX12 g0 m_refused m_kind m_figure m_weight m_got m_setting (nI n) (nI sn) dn m_tape m_letter m_letterAt m_told tp mat stm m_kept him ki2 cu2 m_price m_offer m_gets m_yes m_buys m_ends m_carried m_row rm m_keptRow m_likeGets m_likePrice m_ahead, cI aC m_kind 9 kf2, cI aC m_figure 9 ff2, cI aC m_weight 9 wf2, cI aC m_got 8 qf2, cI aC m_setting 5 stf2, cI aC m_price 81 pf2, cI aC m_offer 81 of2, cI aC m_gets 90 gf2, cI aC m_yes 9 yf2, cI aC m_buys 9 bf2, cI aC m_ends 9 ef2, cI aC m_carried 9 cf2, cI aC m_kept 100 kq, cI aC m_refused 7 mr2] t.heap ∧ va_K (dC, dI) classes (TY aC) t ∧ va_D A [oX12 g0 m_refused m_kind m_figure m_weight m_got m_setting (nI n) (nI sn) dn m_tape m_letter m_letterAt m_told tp mat stm m_kept him ki2 cu2 m_price m_offer m_gets m_yes m_buys m_ends m_carried m_row rm m_keptRow m_likeGets m_likePrice m_ahead, cI aC m_kind 9 kf2, cI aC m_figure 9 ff2, cI aC m_weight 9 wf2, cI aC m_got 8 qf2, cI aC m_setting 5 stf2, cI aC m_price 81 pf2, cI aC m_offer 81 of2, cI aC m_gets 90 gf2, cI aC m_yes 9 yf2, cI aC m_buys 9 bf2, cI aC m_ends 9 ef2, cI aC m_carried 9 cf2, cI aC m_kept 100 kq, cI aC m_refused 7 mr2]) A) ([Value.ref g0, Value.int i] : List Value).toArray s 0 0 A) (F0 m 66 ls []) := by
                  intro fu
                  induction fu with
                  | zero => intro k kdb fdb wdb hfu; exact absurd hfu (Nat.not_lt_zero _)
                  | succ fu ih_66 =>
                    intro k kdb fdb wdb hfu hk9 hs0 hs1 hs2 H locs ls hP hD hS hl
                    refine lv_iload hx hb dX12_bestAge_66 (lv_at hl 5 rfl) ?_
                    refine lv_iload hx hb dX12_bestAge_68 (lv_at hl 4 rfl) ?_
                    refine lv_icmp_le (tgt := 89) hx hb dX12_bestAge_70 (by decide) (fun c_8 => ?_) (fun c_8 => ?_)
                    · have hkj9 : k ≤ j := (nI_leI (by omega) (by omega)).mp c_8
                      have htt : (if a < j then j else k) = j := by split <;> omega
                      have hevb := EVS_pm (s := bo a j) (tk := kdb) (tf := fdb) (tw := wdb) hevc (fun q hq => bo_lt ha8 hlt hq) (fun q hq => by rw [hs0 q (by omega), htt]) (fun q hq => by rw [hs1 q (by omega), htt]) (fun q hq => by rw [hs2 q (by omega), htt]) (fun _ _ => rfl)
                      refine lv_aload_n hx hb dX12_bestAge_89 rfl (lv_at hl 0 rfl) ?_
                      have hpd9 := pdf_N (cx := [oX12 g0 m_refused m_kind m_figure m_weight m_got m_setting (nI n) (nI sn) dn m_tape m_letter m_letterAt m_told tp mat stm m_kept him 1 u_5 m_price m_offer m_gets m_yes m_buys m_ends m_carried m_row rm m_keptRow m_likeGets m_likePrice m_ahead, cI aC m_kind 9 kdb, cI aC m_figure 9 fdb, cI aC m_weight 9 wdb, cI aC m_setting 5 stfc, cI aC m_price 81 pfc, cI aC m_offer 81 ofc, cI aC m_gets 90 gfc, cI aC m_yes 9 yfc, cI aC m_buys 9 bfc, cI aC m_ends 9 efc, cI aC m_carried 9 cfc]) hP hD hS hA [8, 10, 11, 12, 14, 0, 1, 2, 3, 4, 5, 6] (by decide) rfl
                      have hPc := hpd9.1
                      have hDc := hpd9.2.1
                      have hFc := hpd9.2.2
                      clear hpd9
                      refine va_callv (va_runV (As := []) (rest := []) ⟨hx, hb, hml, hown, hts⟩ (c_X12_solvesAll l dC dI aC H.size g0 m_refused m_kind m_figure m_weight m_got m_setting m_tape m_letter m_letterAt m_told m_kept m_price m_offer m_gets m_yes m_buys m_ends m_carried m_row m_keptRow m_likeGets m_likePrice m_ahead (nI sn) dn tp mat stm him 1 u_5 rm n kdb fdb wdb stfc pfc ofc gfc yfc bfc efc cfc (fun q => K (bo a j q)) (fun q => F (bo a j q)) (fun q => W0 (bo a j q)) (S5 0) (PO n (fun q => K (bo a j q)) (fun q => F (bo a j q)) (fun q => W0 (bo a j q)) S5) (hevb.1) (PO_cl hevb)) ⟨(callB_of 0 hts (gG kw_896) rfl rfl rfl (hts _ (gw kw_13 rfl)) (hts _ (gw kw_893 rfl)) hd_X12_solvesAll ⟨Nat.le_of_ble_eq_true rfl, Nat.le_of_ble_eq_true rfl⟩), (hts _ (gw kw_895 rfl)), (hts _ (gw ks_45 rfl))⟩ ⟨fb_std, va_recv (q := (RX12, TX12, 33)) hK hPc (ci := 12) (q0 := 0) rfl rfl, pre_std hPc hK hDc hN⟩ rfl rfl hl.1 rfl (lv_room (Nat.le_of_ble_eq_true rfl)) dX12_bestAge_90 ⟨Nat.le_of_ble_eq_true rfl, Nat.le_of_ble_eq_true rfl⟩) hS (fun q _ h => hFc q h) hFc (fun u9 t9 H1 locs ht hvm hw_9 hB hz1 hk1 hS => ?_)
                      obtain ⟨u_10, u_11, u_12, u_13, u_14, u_15, u_16⟩ := u9
                      obtain ⟨hP1, hK1, hD1⟩ := hB
                      rw [ht] at hP1
                      clear hK1
                      try dsimp only at hw_9
                      have hpd9 : PDx (dC, dI) classes A H1 [cI aC m_refused 7 mr, cI aC m_kept 100 u_6, cI aC m_got 8 qfc, oX12 g0 m_refused m_kind m_figure m_weight m_got m_setting (nI n) (nI sn) dn m_tape m_letter m_letterAt m_told tp mat stm m_kept him 1 u_5 m_price m_offer m_gets m_yes m_buys m_ends m_carried m_row rm m_keptRow m_likeGets m_likePrice m_ahead, cI aC m_kind 9 kdb, cI aC m_figure 9 fdb, cI aC m_weight 9 wdb, cI aC m_setting 5 stfc, cI aC m_price 81 u_10, cI aC m_offer 81 u_11, cI aC m_gets 90 u_12, cI aC m_yes 9 u_13, cI aC m_buys 9 u_14, cI aC m_ends 9 u_15, cI aC m_carried 9 u_16] := jn_N (wr := [cI aC m_refused 7 mr, cI aC m_kept 100 u_6, cI aC m_got 8 qfc]) hFc hk1 hP1 hD1 hP hD [8, 10, 11, 12, 14, 0, 1, 2, 3, 4, 5, 6] [7, 9, 13] rfl rfl (by decide) (by decide)
                      have hP := hpd9.1
                      have hD := hpd9.2
                      clear hpd9
                      generalize H1 = H at hP hS ⊢
                      clear hPc hDc hFc hz1 hk1 hP1 hD1 ht hvm
                      have hm1 := hw_9
                      refine lv_aload_n hx hb dX12_bestAge_93 rfl (lv_at hl 0 rfl) ?_
                      refine va_get (D := (dC, dI)) (ci := 12) (v := Value.ref m_gets) (C := RX12) (T := TX12) (N := 33) hx hb hts inX12 hown hK hP 3 rfl rfl 22 (by decide) (hts _ (gw kw_739 rfl)) (fun _ h9 => h9) rfl dX12_bestAge_94 ?_
                      refine lv_iload hx hb dX12_bestAge_97 (lv_at hl 4 rfl) ?_
                      have h_17 : vp_in (nI j) 90 := by first | exact vp_in_nI (by omega) (by omega) | (unfold vp_in; decide) | (subst_vars; first | (unfold vp_in; decide) | exact vp_in_nI (by omega) (by omega))
                      refine va_iald hx hb hK hP 10 0 rfl rfl h_17 dX12_bestAge_99 ?_
                      refine lv_topi (fun x_18 e_18 => ?_)
                      have hv1 : x_18 = (bV n K F W0 S5 a) j := by
                        have h7 := (hm1 0 (by omega)).2.2.1 j (by omega) hlt
                        rw [Nat.mul_zero, Nat.zero_add] at h7
                        rw [e_18, nI_clamp (by omega)]; exact h7
                      refine lv_iload_n hx hb dX12_bestAge_100 rfl (lv_at hl 3 rfl) ?_
                      refine lv_icmp_le (tgt := 115) hx hb dX12_bestAge_101 (by decide) (fun c_19 => ?_) (fun c_19 => ?_)
                      · have hm9 := zS_m1 (q := j) hevb (i := 0) (by omega)
                        have hbn : ((j + 1) = 0 ∧ x2 = 0 ∧ x3 = -2) ∨ (1 ≤ (j + 1) ∧ x2 = nI (bsf (bV n K F W0 S5 a) (j + 1)).1 ∧ x3 = (bsf (bV n K F W0 S5 a) (j + 1)).2) := by
                          rcases hbi with ⟨h1, h2, h3⟩ | ⟨h1, h2, h3⟩
                          · exact absurd (show (bV n K F W0 S5 a) j ≤ -2 by rw [← h3, ← hv1]; exact c_19) hm9.2
                          · have hbs := bsf_n hv1 h3 c_19
                            exact Or.inr ⟨by omega, by rw [hbs]; exact h2, by rw [hbs]; exact h3⟩
                        refine lv_aload_n hx hb dX12_bestAge_115 rfl (lv_at hl 0 rfl) ?_
                        refine lv_iconst (v := 1) hx hb dX12_bestAge_116 (by decide) ?_
                        refine lv_iconst (v := 0) hx hb dX12_bestAge_117 (by decide) ?_
                        have hpd9 := pdf_N (cx := [oX12 g0 m_refused m_kind m_figure m_weight m_got m_setting (nI n) (nI sn) dn m_tape m_letter m_letterAt m_told tp mat stm m_kept him 1 u_5 m_price m_offer m_gets m_yes m_buys m_ends m_carried m_row rm m_keptRow m_likeGets m_likePrice m_ahead, cI aC m_kept 100 u_6, cI aC m_kind 9 kdb, cI aC m_figure 9 fdb, cI aC m_weight 9 wdb, cI aC m_got 8 qfc, cI aC m_setting 5 stfc]) hP hD hS hA [3, 1, 4, 5, 6, 2, 7] (by decide) rfl
                        have hPc := hpd9.1
                        have hDc := hpd9.2.1
                        have hFc := hpd9.2.2
                        clear hpd9
                        refine va_callv (va_runV (As := [Value.int 1, Value.int 0]) (rest := []) ⟨hx, hb, hml, hown, hts⟩ (c_X12_passesAll_l l dC dI aC H.size g0 m_refused m_kind m_figure m_weight m_got m_setting m_tape m_letter m_letterAt m_told m_kept m_price m_offer m_gets m_yes m_buys m_ends m_carried m_row m_keptRow m_likeGets m_likePrice m_ahead (nI n) (nI sn) dn tp mat stm him 1 u_5 rm u_6 1 kdb fdb wdb qfc stfc (by omega)) ⟨(callB_of 2 hts (gG kw_850) rfl rfl rfl (hts _ (gw kw_13 rfl)) (hts _ (gw kw_847 rfl)) hd_X12_passesAll ⟨Nat.le_of_ble_eq_true rfl, Nat.le_of_ble_eq_true rfl⟩), (hts _ (gw kw_849 rfl)), (hts _ (gw ks_39 rfl))⟩ ⟨fb_std, va_recv (q := (RX12, TX12, 33)) hK hPc (ci := 12) (q0 := 0) rfl rfl, pre_std hPc hK hDc hN⟩ rfl rfl hl.1 rfl (lv_room (Nat.le_of_ble_eq_true rfl)) dX12_bestAge_118 ⟨Nat.le_of_ble_eq_true rfl, Nat.le_of_ble_eq_true rfl⟩) hS (fun q _ h => hFc q h) hFc (fun u9 t9 H1 locs ht hvm hw_20 hB hz1 hk1 hS => ?_)
                        obtain ⟨u_21, u_22, u_23, u_24, u_25, u_26, u_27, u_28, u_29⟩ := u9
                        obtain ⟨hP1, hK1, hD1⟩ := hB
                        rw [ht] at hP1
                        clear hK1
                        try dsimp only at hw_20
                        have hpd9 : PDx (dC, dI) classes A H1 [cI aC m_refused 7 mr, cI aC m_price 81 u_10, cI aC m_offer 81 u_11, cI aC m_gets 90 u_12, cI aC m_yes 9 u_13, cI aC m_buys 9 u_14, cI aC m_ends 9 u_15, cI aC m_carried 9 u_16, oX12 g0 m_refused m_kind m_figure m_weight m_got m_setting u_22 u_23 u_24 m_tape m_letter m_letterAt m_told tp mat stm m_kept him 0 u_21 m_price m_offer m_gets m_yes m_buys m_ends m_carried m_row rm m_keptRow m_likeGets m_likePrice m_ahead, cI aC m_kept 100 u_6, cI aC m_kind 9 u_25, cI aC m_figure 9 u_26, cI aC m_weight 9 u_27, cI aC m_got 8 u_28, cI aC m_setting 5 u_29] := jn_N (wr := [cI aC m_refused 7 mr, cI aC m_price 81 u_10, cI aC m_offer 81 u_11, cI aC m_gets 90 u_12, cI aC m_yes 9 u_13, cI aC m_buys 9 u_14, cI aC m_ends 9 u_15, cI aC m_carried 9 u_16]) hFc hk1 hP1 hD1 hP hD [3, 1, 4, 5, 6, 2, 7] [0, 8, 9, 10, 11, 12, 13, 14] rfl rfl (by decide) (by decide)
                        have hP := hpd9.1
                        have hD := hpd9.2
                        clear hpd9
                        generalize H1 = H at hP hS ⊢
                        clear hPc hDc hFc hz1 hk1 hP1 hD1 ht hvm
                        obtain ⟨hre, hr1, hr2, hr3⟩ := PK_eq hpk hw_20
                        have h9 : u_22 = nI n := hr1
                        subst h9
                        have h9 : u_23 = nI sn := hr2
                        subst h9
                        have h9 : dn = u_24 := Eq.symm (show u_24 = dn from hr3)
                        subst h9
                        obtain ⟨x_30, e_30⟩ : ∃ y : Int32, y = (nI j) + 1 := ⟨_, rfl⟩
                        refine lv_iinc (v := x_30) (lv' := [(4, Value.int x_30), (0, Value.ref g0), (1, Value.int (nI a)), (2, Value.int x2), (3, Value.int x3), (5, Value.int (nI k))]) hx hb dX12_bestAge_121 hl (k := 4) rfl (by rw [e_30]; rfl) (by decide) rfl (fun ls hl => ?_)
                        have h9 : x_30 = nI (j + 1) := by rw [e_30, nI_1]
                        subst h9
                        refine lv_goto (tgt := 22) hx hb dX12_bestAge_124 (by decide) ?_
                        exact ih_22 (j + 1) x2 x3 0 u_21 u_25 u_26 u_27 u_28 u_29 u_10 u_11 u_12 u_13 u_14 u_15 u_16 u_6 (by omega) (by omega) (hbn) (RS5_t hrs hre) (fun q hq => (hpq q (by omega)).trans (hkp q hq)) _ _ _ (hP.sub [10, 11, 12, 13, 14, 1, 2, 3, 4, 5, 6, 7, 9, 0, 8] rfl) (hD.sub [10, 11, 12, 13, 14, 1, 2, 3, 4, 5, 6, 7, 9, 0, 8] (by decide) rfl) hS (lv_sub hl [1, 2, 3, 4, 0] rfl)
                      · refine lv_iload hx hb dX12_bestAge_104 (lv_at hl 4 rfl) ?_
                        refine lv_istore_n (lv' := [(2, Value.int (nI j)), (0, Value.ref g0), (1, Value.int (nI a)), (3, Value.int x3), (4, Value.int (nI j)), (5, Value.int (nI k))]) hx hb dX12_bestAge_106 rfl hl (by decide) rfl (fun ls hl => ?_)
                        refine lv_aload_n hx hb dX12_bestAge_107 rfl (lv_at hl 1 rfl) ?_
                        refine va_get (D := (dC, dI)) (ci := 12) (v := Value.ref m_gets) (C := RX12) (T := TX12) (N := 33) hx hb hts inX12 hown hK hP 3 rfl rfl 22 (by decide) (hts _ (gw kw_739 rfl)) (fun _ h9 => h9) rfl dX12_bestAge_108 ?_
                        refine lv_iload hx hb dX12_bestAge_111 (lv_at hl 4 rfl) ?_
                        have h_31 : vp_in (nI j) 90 := by first | exact vp_in_nI (by omega) (by omega) | (unfold vp_in; decide) | (subst_vars; first | (unfold vp_in; decide) | exact vp_in_nI (by omega) (by omega))
                        refine va_iald hx hb hK hP 10 0 rfl rfl h_31 dX12_bestAge_113 ?_
                        refine lv_topi (fun x_32 e_32 => ?_)
                        have hv2 : x_32 = (bV n K F W0 S5 a) j := by
                          have h7 := (hm1 0 (by omega)).2.2.1 j (by omega) hlt
                          rw [Nat.mul_zero, Nat.zero_add] at h7
                          rw [e_32, nI_clamp (by omega)]; exact h7
                        refine lv_istore_n (lv' := [(3, Value.int x_32), (2, Value.int (nI j)), (0, Value.ref g0), (1, Value.int (nI a)), (4, Value.int (nI j)), (5, Value.int (nI k))]) hx hb dX12_bestAge_114 rfl hl (by decide) rfl (fun ls hl => ?_)
                        have hm9 := zS_m1 (q := j) hevb (i := 0) (by omega)
                        have hbn : ((j + 1) = 0 ∧ nI j = 0 ∧ x_32 = -2) ∨ (1 ≤ (j + 1) ∧ nI j = nI (bsf (bV n K F W0 S5 a) (j + 1)).1 ∧ x_32 = (bsf (bV n K F W0 S5 a) (j + 1)).2) := by
                          rcases hbi with ⟨h1, h2, h3⟩ | ⟨h1, h2, h3⟩
                          · have hbs := bsf_1j (V := (bV n K F W0 S5 a)) h1 hm9.1
                            exact Or.inr ⟨by omega, by rw [hbs], by rw [hbs]; exact hv2⟩
                          · have hbs := bsf_y hv1 h3 c_19
                            exact Or.inr ⟨by omega, by rw [hbs], by rw [hbs]; exact hv2⟩
                        refine lv_aload_n hx hb dX12_bestAge_115 rfl (lv_at hl 2 rfl) ?_
                        refine lv_iconst (v := 1) hx hb dX12_bestAge_116 (by decide) ?_
                        refine lv_iconst (v := 0) hx hb dX12_bestAge_117 (by decide) ?_
                        have hpd9 := pdf_N (cx := [oX12 g0 m_refused m_kind m_figure m_weight m_got m_setting (nI n) (nI sn) dn m_tape m_letter m_letterAt m_told tp mat stm m_kept him 1 u_5 m_price m_offer m_gets m_yes m_buys m_ends m_carried m_row rm m_keptRow m_likeGets m_likePrice m_ahead, cI aC m_kept 100 u_6, cI aC m_kind 9 kdb, cI aC m_figure 9 fdb, cI aC m_weight 9 wdb, cI aC m_got 8 qfc, cI aC m_setting 5 stfc]) hP hD hS hA [3, 1, 4, 5, 6, 2, 7] (by decide) rfl
                        have hPc := hpd9.1
                        have hDc := hpd9.2.1
                        have hFc := hpd9.2.2
                        clear hpd9
                        refine va_callv (va_runV (As := [Value.int 1, Value.int 0]) (rest := []) ⟨hx, hb, hml, hown, hts⟩ (c_X12_passesAll_l l dC dI aC H.size g0 m_refused m_kind m_figure m_weight m_got m_setting m_tape m_letter m_letterAt m_told m_kept m_price m_offer m_gets m_yes m_buys m_ends m_carried m_row m_keptRow m_likeGets m_likePrice m_ahead (nI n) (nI sn) dn tp mat stm him 1 u_5 rm u_6 1 kdb fdb wdb qfc stfc (by omega)) ⟨(callB_of 2 hts (gG kw_850) rfl rfl rfl (hts _ (gw kw_13 rfl)) (hts _ (gw kw_847 rfl)) hd_X12_passesAll ⟨Nat.le_of_ble_eq_true rfl, Nat.le_of_ble_eq_true rfl⟩), (hts _ (gw kw_849 rfl)), (hts _ (gw ks_39 rfl))⟩ ⟨fb_std, va_recv (q := (RX12, TX12, 33)) hK hPc (ci := 12) (q0 := 0) rfl rfl, pre_std hPc hK hDc hN⟩ rfl rfl hl.1 rfl (lv_room (Nat.le_of_ble_eq_true rfl)) dX12_bestAge_118 ⟨Nat.le_of_ble_eq_true rfl, Nat.le_of_ble_eq_true rfl⟩) hS (fun q _ h => hFc q h) hFc (fun u9 t9 H1 locs ht hvm hw_33 hB hz1 hk1 hS => ?_)
                        obtain ⟨u_34, u_35, u_36, u_37, u_38, u_39, u_40, u_41, u_42⟩ := u9
                        obtain ⟨hP1, hK1, hD1⟩ := hB
                        rw [ht] at hP1
                        clear hK1
                        try dsimp only at hw_33
                        have hpd9 : PDx (dC, dI) classes A H1 [cI aC m_refused 7 mr, cI aC m_price 81 u_10, cI aC m_offer 81 u_11, cI aC m_gets 90 u_12, cI aC m_yes 9 u_13, cI aC m_buys 9 u_14, cI aC m_ends 9 u_15, cI aC m_carried 9 u_16, oX12 g0 m_refused m_kind m_figure m_weight m_got m_setting u_35 u_36 u_37 m_tape m_letter m_letterAt m_told tp mat stm m_kept him 0 u_34 m_price m_offer m_gets m_yes m_buys m_ends m_carried m_row rm m_keptRow m_likeGets m_likePrice m_ahead, cI aC m_kept 100 u_6, cI aC m_kind 9 u_38, cI aC m_figure 9 u_39, cI aC m_weight 9 u_40, cI aC m_got 8 u_41, cI aC m_setting 5 u_42] := jn_N (wr := [cI aC m_refused 7 mr, cI aC m_price 81 u_10, cI aC m_offer 81 u_11, cI aC m_gets 90 u_12, cI aC m_yes 9 u_13, cI aC m_buys 9 u_14, cI aC m_ends 9 u_15, cI aC m_carried 9 u_16]) hFc hk1 hP1 hD1 hP hD [3, 1, 4, 5, 6, 2, 7] [0, 8, 9, 10, 11, 12, 13, 14] rfl rfl (by decide) (by decide)
                        have hP := hpd9.1
                        have hD := hpd9.2
                        clear hpd9
                        generalize H1 = H at hP hS ⊢
                        clear hPc hDc hFc hz1 hk1 hP1 hD1 ht hvm
                        obtain ⟨hre, hr1, hr2, hr3⟩ := PK_eq hpk hw_33
                        have h9 : u_35 = nI n := hr1
                        subst h9
                        have h9 : u_36 = nI sn := hr2
                        subst h9
                        have h9 : dn = u_37 := Eq.symm (show u_37 = dn from hr3)
                        subst h9
                        obtain ⟨x_43, e_43⟩ : ∃ y : Int32, y = (nI j) + 1 := ⟨_, rfl⟩
                        refine lv_iinc (v := x_43) (lv' := [(4, Value.int x_43), (3, Value.int x_32), (2, Value.int (nI j)), (0, Value.ref g0), (1, Value.int (nI a)), (5, Value.int (nI k))]) hx hb dX12_bestAge_121 hl (k := 4) rfl (by rw [e_43]; rfl) (by decide) rfl (fun ls hl => ?_)
                        have h9 : x_43 = nI (j + 1) := by rw [e_43, nI_1]
                        subst h9
                        refine lv_goto (tgt := 22) hx hb dX12_bestAge_124 (by decide) ?_
                        exact ih_22 (j + 1) (nI j) x_32 0 u_34 u_38 u_39 u_40 u_41 u_42 u_10 u_11 u_12 u_13 u_14 u_15 u_16 u_6 (by omega) (by omega) (hbn) (RS5_t hrs hre) (fun q hq => (hpq q (by omega)).trans (hkp q hq)) _ _ _ (hP.sub [10, 11, 12, 13, 14, 1, 2, 3, 4, 5, 6, 7, 9, 0, 8] rfl) (hD.sub [10, 11, 12, 13, 14, 1, 2, 3, 4, 5, 6, 7, 9, 0, 8] (by decide) rfl) hS (lv_sub hl [3, 4, 2, 1, 0] rfl)
                    · have hl3 : j < k := (nI_ltI (by omega) (by omega)).mp (Int32.not_le.mp c_8)
                      refine lv_aload_n hx hb dX12_bestAge_73 rfl (lv_at hl 0 rfl) ?_
                      refine lv_iload hx hb dX12_bestAge_74 (lv_at hl 5 rfl) ?_
                      refine lv_iload hx hb dX12_bestAge_76 (lv_at hl 5 rfl) ?_
                      refine lv_iconst (v := 1) hx hb dX12_bestAge_78 (by decide) ?_
                      refine lv_isub hx hb dX12_bestAge_79 ?_
                      refine lv_topi (fun x_44 e_44 => ?_)
                      have h9 : x_44 = nI (k - 1) := by rw [e_44]; exact pk_sub (a := k) (b := 1) (by omega)
                      subst h9
                      have hpd9 := pdf_N (cx := [oX12 g0 m_refused m_kind m_figure m_weight m_got m_setting (nI n) (nI sn) dn m_tape m_letter m_letterAt m_told tp mat stm m_kept him 1 u_5 m_price m_offer m_gets m_yes m_buys m_ends m_carried m_row rm m_keptRow m_likeGets m_likePrice m_ahead, cI aC m_kind 9 kdb, cI aC m_figure 9 fdb, cI aC m_weight 9 wdb]) hP hD hS hA [8, 10, 11, 12] (by decide) rfl
                      have hPc := hpd9.1
                      have hDc := hpd9.2.1
                      have hFc := hpd9.2.2
                      clear hpd9
                      refine va_callv (va_runV (As := [Value.int (nI k), Value.int (nI (k - 1))]) (rest := []) ⟨hx, hb, hml, hown, hts⟩ (c_X12_swaps l dC dI aC H.size g0 m_refused m_kind m_figure m_weight m_got m_setting m_tape m_letter m_letterAt m_told m_kept m_price m_offer m_gets m_yes m_buys m_ends m_carried m_row m_keptRow m_likeGets m_likePrice m_ahead (nI n) (nI sn) dn tp mat stm him 1 u_5 rm kdb fdb wdb k (k - 1) (by omega)) ⟨(callB_of 2 hts (gG kw_1058) rfl rfl rfl (hts _ (gw kw_13 rfl)) (hts _ (gw kw_1055 rfl)) hd_X12_swaps ⟨Nat.le_of_ble_eq_true rfl, Nat.le_of_ble_eq_true rfl⟩), (hts _ (gw kw_1057 rfl)), (hts _ (gw ks_66 rfl))⟩ ⟨fb_std, va_recv (q := (RX12, TX12, 33)) hK hPc (ci := 12) (q0 := 0) rfl rfl, pre_std hPc hK hDc hN⟩ rfl rfl hl.1 rfl (lv_room (Nat.le_of_ble_eq_true rfl)) dX12_bestAge_80 ⟨Nat.le_of_ble_eq_true rfl, Nat.le_of_ble_eq_true rfl⟩) hS (fun q _ h => hFc q h) hFc (fun u9 t9 H1 locs ht hvm hw_45 hB hz1 hk1 hS => ?_)
                      obtain ⟨u_46, u_47, u_48⟩ := u9
                      obtain ⟨hP1, hK1, hD1⟩ := hB
                      rw [ht] at hP1
                      clear hK1
                      try dsimp only at hw_45
                      have hpd9 : PDx (dC, dI) classes A H1 [cI aC m_price 81 pfc, cI aC m_offer 81 ofc, cI aC m_gets 90 gfc, cI aC m_yes 9 yfc, cI aC m_buys 9 bfc, cI aC m_ends 9 efc, cI aC m_carried 9 cfc, cI aC m_refused 7 mr, cI aC m_kept 100 u_6, cI aC m_got 8 qfc, cI aC m_setting 5 stfc, oX12 g0 m_refused m_kind m_figure m_weight m_got m_setting (nI n) (nI sn) dn m_tape m_letter m_letterAt m_told tp mat stm m_kept him 1 u_5 m_price m_offer m_gets m_yes m_buys m_ends m_carried m_row rm m_keptRow m_likeGets m_likePrice m_ahead, cI aC m_kind 9 u_46, cI aC m_figure 9 u_47, cI aC m_weight 9 u_48] := jn_N (wr := [cI aC m_price 81 pfc, cI aC m_offer 81 ofc, cI aC m_gets 90 gfc, cI aC m_yes 9 yfc, cI aC m_buys 9 bfc, cI aC m_ends 9 efc, cI aC m_carried 9 cfc, cI aC m_refused 7 mr, cI aC m_kept 100 u_6, cI aC m_got 8 qfc, cI aC m_setting 5 stfc]) hFc hk1 hP1 hD1 hP hD [8, 10, 11, 12] [0, 1, 2, 3, 4, 5, 6, 7, 9, 13, 14] rfl rfl (by decide) (by decide)
                      have hP := hpd9.1
                      have hD := hpd9.2
                      clear hpd9
                      generalize H1 = H at hP hS ⊢
                      clear hPc hDc hFc hz1 hk1 hP1 hD1 ht hvm
                      have hsq := hw_45
                      obtain ⟨x_49, e_49⟩ : ∃ y : Int32, y = (nI k) + (-1) := ⟨_, rfl⟩
                      refine lv_iinc (v := x_49) (lv' := [(5, Value.int x_49), (0, Value.ref g0), (1, Value.int (nI a)), (2, Value.int x2), (3, Value.int x3), (4, Value.int (nI j))]) hx hb dX12_bestAge_83 hl (k := 5) rfl (by rw [e_49]; rfl) (by decide) rfl (fun ls hl => ?_)
                      have h9 : x_49 = nI (k - 1) := by rw [e_49, nI_iI, show (-1 : Int32) = iI (-1) from rfl, iI_add, nI_iI]; congr 1; omega
                      subst h9
                      have hc0 : ∀ q, q < 8 → u_46 q = kfc (bo a (if a < j then j else k - 1) q) := fun q hq => by rw [hsq.1 q hq, hs0 _ (swq_lt (n := 8) (by omega) (by omega) hq), if_neg (by omega), if_neg (by omega), bo_dn (by omega) (by omega)]
                      have hc1 : ∀ q, q < 8 → u_47 q = ffc (bo a (if a < j then j else k - 1) q) := fun q hq => by rw [hsq.2.1 q hq, hs1 _ (swq_lt (n := 8) (by omega) (by omega) hq), if_neg (by omega), if_neg (by omega), bo_dn (by omega) (by omega)]
                      have hc2 : ∀ q, q < 8 → u_48 q = wfc (bo a (if a < j then j else k - 1) q) := fun q hq => by rw [hsq.2.2 q hq, hs2 _ (swq_lt (n := 8) (by omega) (by omega) hq), if_neg (by omega), if_neg (by omega), bo_dn (by omega) (by omega)]
                      refine lv_goto (tgt := 66) hx hb dX12_bestAge_86 (by decide) ?_
                      exact ih_66 (k - 1) u_46 u_47 u_48 (by omega) (by omega) (hc0) (hc1) (hc2) _ _ _ (hP.sub [0, 1, 2, 3, 4, 5, 6, 7, 11, 8, 12, 13, 14, 9, 10] rfl) (hD.sub [0, 1, 2, 3, 4, 5, 6, 7, 11, 8, 12, 13, 14, 9, 10] (by decide) rfl) hS (lv_sub hl [1, 2, 3, 4, 5, 0] rfl)
                exact lp_66 (a + 1) a kd fd wd (Nat.lt_succ_self _) (by omega) (fun q hq => by rw [hs0 q hq, show k = (if a < j then j else a) by split <;> omega]) (fun q hq => by rw [hs1 q hq, show k = (if a < j then j else a) by split <;> omega]) (fun q hq => by rw [hs2 q hq, show k = (if a < j then j else a) by split <;> omega]) _ _ _ (hP.sub [0, 1, 2, 3, 4, 5, 6, 7, 8, 9, 10, 11, 12, 13, 14] rfl) (hD.sub [0, 1, 2, 3, 4, 5, 6, 7, 8, 9, 10, 11, 12, 13, 14] (by decide) rfl) hS (lv_sub hl [1, 2, 3, 4, 5, 0] rfl)
              · have hl2 : k < j := by
                  rcases Nat.lt_or_ge k j with q | q
                  · exact q
                  · exact absurd (nI_le q (by omega)) c_7
                refine lv_aload_n hx hb dX12_bestAge_47 rfl (lv_at hl 0 rfl) ?_
                refine lv_iload hx hb dX12_bestAge_48 (lv_at hl 5 rfl) ?_
                refine lv_iload hx hb dX12_bestAge_50 (lv_at hl 5 rfl) ?_
                refine lv_iconst (v := 1) hx hb dX12_bestAge_52 (by decide) ?_
                refine lv_iadd hx hb dX12_bestAge_53 ?_
                refine lv_topi (fun x_50 e_50 => ?_)
                have h9 : x_50 = nI (k + 1) := by rw [e_50, nI_1]
                subst h9
                have hpd9 := pdf_N (cx := [oX12 g0 m_refused m_kind m_figure m_weight m_got m_setting (nI n) (nI sn) dn m_tape m_letter m_letterAt m_told tp mat stm m_kept him 1 u_5 m_price m_offer m_gets m_yes m_buys m_ends m_carried m_row rm m_keptRow m_likeGets m_likePrice m_ahead, cI aC m_kind 9 kd, cI aC m_figure 9 fd, cI aC m_weight 9 wd]) hP hD hS hA [8, 10, 11, 12] (by decide) rfl
                have hPc := hpd9.1
                have hDc := hpd9.2.1
                have hFc := hpd9.2.2
                clear hpd9
                refine va_callv (va_runV (As := [Value.int (nI k), Value.int (nI (k + 1))]) (rest := []) ⟨hx, hb, hml, hown, hts⟩ (c_X12_swaps l dC dI aC H.size g0 m_refused m_kind m_figure m_weight m_got m_setting m_tape m_letter m_letterAt m_told m_kept m_price m_offer m_gets m_yes m_buys m_ends m_carried m_row m_keptRow m_likeGets m_likePrice m_ahead (nI n) (nI sn) dn tp mat stm him 1 u_5 rm kd fd wd k (k + 1) (by omega)) ⟨(callB_of 2 hts (gG kw_1058) rfl rfl rfl (hts _ (gw kw_13 rfl)) (hts _ (gw kw_1055 rfl)) hd_X12_swaps ⟨Nat.le_of_ble_eq_true rfl, Nat.le_of_ble_eq_true rfl⟩), (hts _ (gw kw_1057 rfl)), (hts _ (gw ks_66 rfl))⟩ ⟨fb_std, va_recv (q := (RX12, TX12, 33)) hK hPc (ci := 12) (q0 := 0) rfl rfl, pre_std hPc hK hDc hN⟩ rfl rfl hl.1 rfl (lv_room (Nat.le_of_ble_eq_true rfl)) dX12_bestAge_54 ⟨Nat.le_of_ble_eq_true rfl, Nat.le_of_ble_eq_true rfl⟩) hS (fun q _ h => hFc q h) hFc (fun u9 t9 H1 locs ht hvm hw_51 hB hz1 hk1 hS => ?_)
                obtain ⟨u_52, u_53, u_54⟩ := u9
                obtain ⟨hP1, hK1, hD1⟩ := hB
                rw [ht] at hP1
                clear hK1
                try dsimp only at hw_51
                have hpd9 : PDx (dC, dI) classes A H1 [cI aC m_price 81 pfc, cI aC m_offer 81 ofc, cI aC m_gets 90 gfc, cI aC m_yes 9 yfc, cI aC m_buys 9 bfc, cI aC m_ends 9 efc, cI aC m_carried 9 cfc, cI aC m_refused 7 mr, cI aC m_kept 100 u_6, cI aC m_got 8 qfc, cI aC m_setting 5 stfc, oX12 g0 m_refused m_kind m_figure m_weight m_got m_setting (nI n) (nI sn) dn m_tape m_letter m_letterAt m_told tp mat stm m_kept him 1 u_5 m_price m_offer m_gets m_yes m_buys m_ends m_carried m_row rm m_keptRow m_likeGets m_likePrice m_ahead, cI aC m_kind 9 u_52, cI aC m_figure 9 u_53, cI aC m_weight 9 u_54] := jn_N (wr := [cI aC m_price 81 pfc, cI aC m_offer 81 ofc, cI aC m_gets 90 gfc, cI aC m_yes 9 yfc, cI aC m_buys 9 bfc, cI aC m_ends 9 efc, cI aC m_carried 9 cfc, cI aC m_refused 7 mr, cI aC m_kept 100 u_6, cI aC m_got 8 qfc, cI aC m_setting 5 stfc]) hFc hk1 hP1 hD1 hP hD [8, 10, 11, 12] [0, 1, 2, 3, 4, 5, 6, 7, 9, 13, 14] rfl rfl (by decide) (by decide)
                have hP := hpd9.1
                have hD := hpd9.2
                clear hpd9
                generalize H1 = H at hP hS ⊢
                clear hPc hDc hFc hz1 hk1 hP1 hD1 ht hvm
                have hsq := hw_51
                obtain ⟨x_55, e_55⟩ : ∃ y : Int32, y = (nI k) + 1 := ⟨_, rfl⟩
                refine lv_iinc (v := x_55) (lv' := [(5, Value.int x_55), (0, Value.ref g0), (1, Value.int (nI a)), (2, Value.int x2), (3, Value.int x3), (4, Value.int (nI j))]) hx hb dX12_bestAge_57 hl (k := 5) rfl (by rw [e_55]; rfl) (by decide) rfl (fun ls hl => ?_)
                have h9 : x_55 = nI (k + 1) := by rw [e_55, nI_1]
                subst h9
                have hc0 : ∀ q, q < 8 → u_52 q = kfc (bo a (k + 1) q) := fun q hq => by rw [hsq.1 q hq, hs0 _ (swq_lt (n := 8) (by omega) (by omega) hq), bo_up (by omega)]
                have hc1 : ∀ q, q < 8 → u_53 q = ffc (bo a (k + 1) q) := fun q hq => by rw [hsq.2.1 q hq, hs1 _ (swq_lt (n := 8) (by omega) (by omega) hq), bo_up (by omega)]
                have hc2 : ∀ q, q < 8 → u_54 q = wfc (bo a (k + 1) q) := fun q hq => by rw [hsq.2.2 q hq, hs2 _ (swq_lt (n := 8) (by omega) (by omega) hq), bo_up (by omega)]
                refine lv_goto (tgt := 40) hx hb dX12_bestAge_60 (by decide) ?_
                exact ih_40 (k + 1) u_52 u_53 u_54 (by omega) (by omega) (hc0) (hc1) (hc2) _ _ _ (hP.sub [0, 1, 2, 3, 4, 5, 6, 7, 11, 8, 12, 13, 14, 9, 10] rfl) (hD.sub [0, 1, 2, 3, 4, 5, 6, 7, 11, 8, 12, 13, 14, 9, 10] (by decide) rfl) hS (lv_sub hl [1, 2, 3, 4, 5, 0] rfl)
          exact lp_40 ((n - a) + 1) a kfc ffc wfc (Nat.lt_succ_self _) (by omega) (fun q _ => by rw [bo_id]) (fun q _ => by rw [bo_id]) (fun q _ => by rw [bo_id]) _ _ _ (hP.sub [0, 1, 2, 3, 4, 5, 6, 7, 8, 9, 10, 11, 12, 13, 14] rfl) (hD.sub [0, 1, 2, 3, 4, 5, 6, 7, 8, 9, 10, 11, 12, 13, 14] (by decide) rfl) hS (lv_sub hl [1, 2, 3, 4, 5, 0] rfl)
    exact lp_22 ((n - 0) + 1) 0 0 (-2) ki crs kf ff wf qf stf pf of gf yf bf ef cf kp (Nat.lt_succ_self _) (by omega) (Or.inl ⟨rfl, rfl, rfl⟩) (RS5_r) (fun q _ => rfl) _ _ _ (hP.sub [0, 1, 2, 3, 4, 5, 6, 7, 8, 9, 10, 11, 12, 13, 14] rfl) (hD.sub [0, 1, 2, 3, 4, 5, 6, 7, 8, 9, 10, 11, 12, 13, 14] (by decide) rfl) hS (lv_sub hl [3, 4, 2, 1, 0] rfl)
  · refine lv_aload_n hx hb dX12_bestAge_8 rfl (lv_at hl 0 rfl) ?_
    refine lv_iconst (v := -1) hx hb dX12_bestAge_9 (by decide) ?_
    have hpd9 := pdf_N (cx := [oX12 g0 m_refused m_kind m_figure m_weight m_got m_setting (nI n) (nI sn) dn m_tape m_letter m_letterAt m_told tp mat stm m_kept him ki crs m_price m_offer m_gets m_yes m_buys m_ends m_carried m_row rm m_keptRow m_likeGets m_likePrice m_ahead, cI aC m_refused 7 mr]) hP hD hS hA [14, 13] (by decide) rfl
    have hPc := hpd9.1
    have hDc := hpd9.2.1
    have hFc := hpd9.2.2
    clear hpd9
    refine va_calli (va_runV (As := [Value.int (-1)]) (rest := []) ⟨hx, hb, hml, hown, hts⟩ (c_X12_no l dC dI aC H.size g0 m_refused m_kind m_figure m_weight m_got m_setting m_tape m_letter m_letterAt m_told m_kept m_price m_offer m_gets m_yes m_buys m_ends m_carried m_row m_keptRow m_likeGets m_likePrice m_ahead (nI n) (nI sn) dn tp mat stm him ki crs rm (-1) 1 mr (by decide) (by unfold vp_in; decide)) ⟨(callB_of 1 hts (gG kw_827) rfl rfl rfl (hts _ (gw kw_13 rfl)) (hts _ (gw kw_824 rfl)) hd_X12_no ⟨Nat.le_of_ble_eq_true rfl, Nat.le_of_ble_eq_true rfl⟩), (hts _ (gw kw_826 rfl)), (hts _ (gw ks_35 rfl))⟩ ⟨fb_std, va_recv (q := (RX12, TX12, 33)) hK hPc (ci := 12) (q0 := 0) rfl rfl, pre_std hPc hK hDc hN⟩ rfl rfl hl.1 rfl (lv_room (Nat.le_of_ble_eq_true rfl)) dX12_bestAge_10 ⟨Nat.le_of_ble_eq_true rfl, Nat.le_of_ble_eq_true rfl⟩) hS (fun q _ h => hFc q h) hFc (fun x_56 u9 t9 H1 locs ht hvm hw_56 hB hz1 hk1 hS => ?_)
    obtain ⟨u_57, rfl⟩ : ∃ z, z = u9 := ⟨_, rfl⟩
    obtain ⟨hP1, hK1, hD1⟩ := hB
    rw [ht] at hP1
    clear hK1
    try dsimp only at hw_56
    have hpd9 : PDx (dC, dI) classes A H1 [cI aC m_kind 9 kf, cI aC m_figure 9 ff, cI aC m_weight 9 wf, cI aC m_got 8 qf, cI aC m_setting 5 stf, cI aC m_price 81 pf, cI aC m_offer 81 of, cI aC m_gets 90 gf, cI aC m_yes 9 yf, cI aC m_buys 9 bf, cI aC m_ends 9 ef, cI aC m_carried 9 cf, cI aC m_kept 100 kp, oX12 g0 m_refused m_kind m_figure m_weight m_got m_setting (nI n) (nI sn) dn m_tape m_letter m_letterAt m_told tp mat stm m_kept him ki crs m_price m_offer m_gets m_yes m_buys m_ends m_carried m_row rm m_keptRow m_likeGets m_likePrice m_ahead, cI aC m_refused 7 u_57] := jn_N (wr := [cI aC m_kind 9 kf, cI aC m_figure 9 ff, cI aC m_weight 9 wf, cI aC m_got 8 qf, cI aC m_setting 5 stf, cI aC m_price 81 pf, cI aC m_offer 81 of, cI aC m_gets 90 gf, cI aC m_yes 9 yf, cI aC m_buys 9 bf, cI aC m_ends 9 ef, cI aC m_carried 9 cf, cI aC m_kept 100 kp]) hFc hk1 hP1 hD1 hP hD [14, 13] [0, 1, 2, 3, 4, 5, 6, 7, 8, 9, 10, 11, 12] rfl rfl (by decide) (by decide)
    have hP := hpd9.1
    have hD := hpd9.2
    clear hpd9
    generalize H1 = H at hP hS ⊢
    clear hPc hDc hFc hz1 hk1 hP1 hD1 ht hvm
    obtain ⟨hv9, -⟩ := hw_56
    have hpd9 := pd_N (cx := [oX12 g0 m_refused m_kind m_figure m_weight m_got m_setting (nI n) (nI sn) dn m_tape m_letter m_letterAt m_told tp mat stm m_kept him ki crs m_price m_offer m_gets m_yes m_buys m_ends m_carried m_row rm m_keptRow m_likeGets m_likePrice m_ahead, cI aC m_kind 9 kf, cI aC m_figure 9 ff, cI aC m_weight 9 wf, cI aC m_got 8 qf, cI aC m_setting 5 stf, cI aC m_price 81 pf, cI aC m_offer 81 of, cI aC m_gets 90 gf, cI aC m_yes 9 yf, cI aC m_buys 9 bf, cI aC m_ends 9 ef, cI aC m_carried 9 cf, cI aC m_kept 100 kp, cI aC m_refused 7 u_57]) hP hD [13, 0, 1, 2, 3, 4, 5, 6, 7, 8, 9, 10, 11, 12, 14] (by decide) rfl
    have hP9 := hpd9.1
    have hD9 := hpd9.2
    refine W.widen (k := 0) (n := 0) (by omega) (by omega) ?_
    exact W.iret (v := x_56) hx hb hr (fun t ht hW => ⟨⟨x_56, (ki, crs, kf, ff, wf, qf, stf, pf, of, gf, yf, bf, ef, cf, kp, u_57), rfl, ⟨RS5_r, fun q _ => rfl, by rw [hv9]; unfold rBst; rw [if_neg (has_n hz_2 c_2)]⟩, by rw [ht]; exact hP9, va_K.moved hW.alike hK, hD9⟩, hS.F ht⟩) hS.2.2 dX12_bestAge_13

set_option maxHeartbeats 1000000 in
set_option maxRecDepth 100000 in
/-- X12_above_w -/
theorem c_X12_above_w (l : Launch) (dC : Nat → ClassId) (dI : Nat → Nat → Nat) (aC : Nat → ClassId) (sz : Nat) (z : Int32)  : Met l yX12_above (wW yX12_above cX12_above 1 (some .int)) ({ frames := 0, cells := 0, slots := 0, locals := 0 } : Room) (va_Pc [Value.int z] (fun U => U.heap.size = sz ∧ va_P (dC, dI) classes [] U.heap ∧ va_K (dC, dI) classes (TY aC) U ∧ va_D (fun _ => True) [] ∧ NX U)) (va_Qi (fun (r : Int32) (_ : Unit) => True) (fun (_ : Unit) (t : State) => va_P (dC, dI) classes [] t.heap ∧ va_K (dC, dI) classes (TY aC) t ∧ va_D (va_A [] sz) []) (va_A [] sz)) 0 0 (va_A [] sz) := by
  refine Met.ofW (cc := cX12_above) (maxL := 1) (ret := (some .int)) (by decide) rfl ?_
  intro p e s m args below meth c s₁ B hml hv
  obtain ⟨rfl, hsz, hP, hK, hD0, hN⟩ := hv
  have hx := B.exec
  have hb := B.bytes
  have hr := B.returns
  have hts0 := atoms_spec (ws := (wW yX12_above cX12_above 1 (some .int))) B.pre
  have hts : ∀ w9 ∈ lw_G, w9.before ([Value.int z] : List Value).toArray s = true := fun w9 h9 => hts0 w9 (List.mem_cons_of_mem _ h9)
  have hown : s.vm.findClass RX12 = some m.cls := findClass_of_methodNamed (x := yX12_above) B.named
  have hlocks := B.notSynchronized
  subst hsz
  have hD := hD0.self (sz := s.heap.size)
  generalize hAe : va_A [] s.heap.size = A at hD ⊢
  have hA : ∀ q : Nat, s.heap.size ≤ q → A q := fun q h => by rw [← hAe]; exact Or.inr h
  obtain ⟨H, hHe⟩ : ∃ H : Heap, H = s.heap := ⟨_, rfl⟩
  have hS : va_S A s.heap H [] := by rw [hHe]; exact va_S.rf
  have hP : va_P (dC, dI) classes [] H := by rw [hHe]; exact hP
  have hl := lv_entry ([Value.int z]) (n := 1) (Nat.le_of_ble_eq_true rfl)
  rw [lg_entry_eq]
  generalize (lg_sl ([Value.int z]) ++ List.replicate (1 - (lg_sl ([Value.int z])).length) Slot.unset).toArray = ls at hl ⊢
  have hl : lv_has ls 1 [(0, Value.int z)] := hl
  rw [← hHe]
  refine lv_iload_n hx hb dX12_above_0 rfl (lv_at hl 0 rfl) ?_
  refine lv_if_ge (tgt := 8) hx hb dX12_above_1 (by decide) (fun c_1 => ?_) (fun c_1 => ?_)
  · refine lv_iload_n hx hb dX12_above_8 rfl (lv_at hl 0 rfl) ?_
    have hpd9 := pd_N (cx := []) hP hD [] (by decide) rfl
    have hP9 := hpd9.1
    have hD9 := hpd9.2
    refine W.widen (k := 0) (n := 0) (by omega) (by omega) ?_
    exact W.iret (v := z) hx hb hr (fun t ht hW => ⟨⟨z, (), rfl, trivial, by rw [ht]; exact hP9, va_K.moved hW.alike hK, hD9⟩, hS.F ht⟩) hS.2.2 dX12_above_9
  · refine lv_iconst (v := 0) hx hb dX12_above_4 (by decide) ?_
    refine lv_goto (tgt := 9) hx hb dX12_above_5 (by decide) ?_
    have hpd9 := pd_N (cx := []) hP hD [] (by decide) rfl
    have hP9 := hpd9.1
    have hD9 := hpd9.2
    refine W.widen (k := 0) (n := 0) (by omega) (by omega) ?_
    exact W.iret (v := 0) hx hb hr (fun t ht hW => ⟨⟨0, (), rfl, trivial, by rw [ht]; exact hP9, va_K.moved hW.alike hK, hD9⟩, hS.F ht⟩) hS.2.2 dX12_above_9

set_option maxHeartbeats 1000000 in
set_option maxRecDepth 100000 in
/-- X12_seeds -/
theorem c_X12_seeds (l : Launch) (dC : Nat → ClassId) (dI : Nat → Nat → Nat) (aC : Nat → ClassId) (sz : Nat) (g0 : Nat) (m_refused : Nat) (m_kind : Nat) (m_figure : Nat) (m_weight : Nat) (m_got : Nat) (m_setting : Nat) (m_tape : Nat) (m_letter : Nat) (m_letterAt : Nat) (m_told : Nat) (m_kept : Nat) (m_price : Nat) (m_offer : Nat) (m_gets : Nat) (m_yes : Nat) (m_buys : Nat) (m_ends : Nat) (m_carried : Nat) (m_row : Nat) (m_keptRow : Nat) (m_likeGets : Nat) (m_likePrice : Nat) (m_ahead : Nat) (tp : Int32) (mat : Int32) (stm : Int32) (him : Int32) (ki : Int32) (crs : Int32) (rm : Int32) (n : Nat) (sn : Nat) (dn : Int32) (kf : Nat → Int32) (ff : Nat → Int32) (wf : Nat → Int32) (qf : Nat → Int32) (stf : Nat → Int32) (pf : Nat → Int32) (of : Nat → Int32) (gf : Nat → Int32) (yf : Nat → Int32) (bf : Nat → Int32) (ef : Nat → Int32) (cf : Nat → Int32) (K : Nat → Nat) (F : Nat → Nat) (W0 : Nat → Nat) (S5 : Nat → Nat) (mr : Nat → Int32) (kp : Nat → Int32) (i : Int32) (a2 : Int32) (a3 : Int32) (hev : EVS n sn dn K F W0 S5 kf ff wf stf) : Met l yX12_seeds (wW yX12_seeds cX12_seeds 11 (some .int)) ({ frames := 5, cells := 0, slots := 0, locals := 115 } : Room) (va_Pc [Value.ref g0, Value.int i, Value.int a2, Value.int a3] (fun U => U.heap.size = sz ∧ va_P (dC, dI) classes [oX12 g0 m_refused m_kind m_figure m_weight m_got m_setting (nI n) (nI sn) dn m_tape m_letter m_letterAt m_told tp mat stm m_kept him ki crs m_price m_offer m_gets m_yes m_buys m_ends m_carried m_row rm m_keptRow m_likeGets m_likePrice m_ahead, cI aC m_kind 9 kf, cI aC m_figure 9 ff, cI aC m_weight 9 wf, cI aC m_got 8 qf, cI aC m_setting 5 stf, cI aC m_price 81 pf, cI aC m_offer 81 of, cI aC m_gets 90 gf, cI aC m_yes 9 yf, cI aC m_buys 9 bf, cI aC m_ends 9 ef, cI aC m_carried 9 cf, cI aC m_kept 100 kp, cI aC m_refused 7 mr] U.heap ∧ va_K (dC, dI) classes (TY aC) U ∧ va_D (fun _ => True) [oX12 g0 m_refused m_kind m_figure m_weight m_got m_setting (nI n) (nI sn) dn m_tape m_letter m_letterAt m_told tp mat stm m_kept him ki crs m_price m_offer m_gets m_yes m_buys m_ends m_carried m_row rm m_keptRow m_likeGets m_likePrice m_ahead, cI aC m_kind 9 kf, cI aC m_figure 9 ff, cI aC m_weight 9 wf, cI aC m_got 8 qf, cI aC m_setting 5 stf, cI aC m_price 81 pf, cI aC m_offer 81 of, cI aC m_gets 90 gf, cI aC m_yes 9 yf, cI aC m_buys 9 bf, cI aC m_ends 9 ef, cI aC m_carried 9 cf, cI aC m_kept 100 kp, cI aC m_refused 7 mr] ∧ NX U)) (va_Qi (fun (r : Int32) (u : Int32 × Int32 × (Nat → Int32) × (Nat → Int32) × (Nat → Int32) × (Nat → Int32) × (Nat → Int32) × (Nat → Int32) × (Nat → Int32) × (Nat → Int32) × (Nat → Int32) × (Nat → Int32) × (Nat → Int32) × (Nat → Int32) × (Nat → Int32) × (Nat → Int32)) => match u with | (ki2, cu2, kf2, ff2, wf2, qf2, stf2, pf2, of2, gf2, yf2, bf2, ef2, cf2, kq, mr2) => RS5 kf ff wf qf stf kf2 ff2 wf2 qf2 stf2 ∧ (∀ q, q < 50 → kq q = kp q) ∧ r = rSds n K F W0 S5 i a2 a3) (fun (u : Int32 × Int32 × (Nat → Int32) × (Nat → Int32) × (Nat → Int32) × (Nat → Int32) × (Nat → Int32) × (Nat → Int32) × (Nat → Int32) × (Nat → Int32) × (Nat → Int32) × (Nat → Int32) × (Nat → Int32) × (Nat → Int32) × (Nat → Int32) × (Nat → Int32)) (t : State) => match u with | (ki2, cu2, kf2, ff2, wf2, qf2, stf2, pf2, of2, gf2, yf2, bf2, ef2, cf2, kq, mr2) => va_P (dC, dI) classes [oX12 g0 m_refused m_kind m_figure m_weight m_got m_setting (nI n) (nI sn) dn m_tape m_letter m_letterAt m_told tp mat stm m_kept him ki2 cu2 m_price m_offer m_gets m_yes m_buys m_ends m_carried m_row rm m_keptRow m_likeGets m_likePrice m_ahead, cI aC m_kind 9 kf2, cI aC m_figure 9 ff2, cI aC m_weight 9 wf2, cI aC m_got 8 qf2, cI aC m_setting 5 stf2, cI aC m_price 81 pf2, cI aC m_offer 81 of2, cI aC m_gets 90 gf2, cI aC m_yes 9 yf2, cI aC m_buys 9 bf2, cI aC m_ends 9 ef2, cI aC m_carried 9 cf2, cI aC m_kept 100 kq, cI aC m_refused 7 mr2] t.heap ∧ va_K (dC, dI) classes (TY aC) t ∧ va_D (va_A [oX12 g0 m_refused m_kind m_figure m_weight m_got m_setting (nI n) (nI sn) dn m_tape m_letter m_letterAt m_told tp mat stm m_kept him ki crs m_price m_offer m_gets m_yes m_buys m_ends m_carried m_row rm m_keptRow m_likeGets m_likePrice m_ahead, cI aC m_kind 9 kf, cI aC m_figure 9 ff, cI aC m_weight 9 wf, cI aC m_got 8 qf, cI aC m_setting 5 stf, cI aC m_price 81 pf, cI aC m_offer 81 of, cI aC m_gets 90 gf, cI aC m_yes 9 yf, cI aC m_buys 9 bf, cI aC m_ends 9 ef, cI aC m_carried 9 cf, cI aC m_kept 100 kp, cI aC m_refused 7 mr] sz) [oX12 g0 m_refused m_kind m_figure m_weight m_got m_setting (nI n) (nI sn) dn m_tape m_letter m_letterAt m_told tp mat stm m_kept him ki2 cu2 m_price m_offer m_gets m_yes m_buys m_ends m_carried m_row rm m_keptRow m_likeGets m_likePrice m_ahead, cI aC m_kind 9 kf2, cI aC m_figure 9 ff2, cI aC m_weight 9 wf2, cI aC m_got 8 qf2, cI aC m_setting 5 stf2, cI aC m_price 81 pf2, cI aC m_offer 81 of2, cI aC m_gets 90 gf2, cI aC m_yes 9 yf2, cI aC m_buys 9 bf2, cI aC m_ends 9 ef2, cI aC m_carried 9 cf2, cI aC m_kept 100 kq, cI aC m_refused 7 mr2]) (va_A [oX12 g0 m_refused m_kind m_figure m_weight m_got m_setting (nI n) (nI sn) dn m_tape m_letter m_letterAt m_told tp mat stm m_kept him ki crs m_price m_offer m_gets m_yes m_buys m_ends m_carried m_row rm m_keptRow m_likeGets m_likePrice m_ahead, cI aC m_kind 9 kf, cI aC m_figure 9 ff, cI aC m_weight 9 wf, cI aC m_got 8 qf, cI aC m_setting 5 stf, cI aC m_price 81 pf, cI aC m_offer 81 of, cI aC m_gets 90 gf, cI aC m_yes 9 yf, cI aC m_buys 9 bf, cI aC m_ends 9 ef, cI aC m_carried 9 cf, cI aC m_kept 100 kp, cI aC m_refused 7 mr] sz)) 0 0 (va_A [oX12 g0 m_refused m_kind m_figure m_weight m_got m_setting (nI n) (nI sn) dn m_tape m_letter m_letterAt m_told tp mat stm m_kept him ki crs m_price m_offer m_gets m_yes m_buys m_ends m_carried m_row rm m_keptRow m_likeGets m_likePrice m_ahead, cI aC m_kind 9 kf, cI aC m_figure 9 ff, cI aC m_weight 9 wf, cI aC m_got 8 qf, cI aC m_setting 5 stf, cI aC m_price 81 pf, cI aC m_offer 81 of, cI aC m_gets 90 gf, cI aC m_yes 9 yf, cI aC m_buys 9 bf, cI aC m_ends 9 ef, cI aC m_carried 9 cf, cI aC m_kept 100 kp, cI aC m_refused 7 mr] sz) := by
  refine Met.ofW (cc := cX12_seeds) (maxL := 11) (ret := (some .int)) (by decide) rfl ?_
  intro p e s m args below meth c s₁ B hml hv
  obtain ⟨rfl, hsz, hP, hK, hD0, hN⟩ := hv
  have hx := B.exec
  have hb := B.bytes
  have hr := B.returns
  have hts0 := atoms_spec (ws := (wW yX12_seeds cX12_seeds 11 (some .int))) B.pre
  have hts : ∀ w9 ∈ lw_G, w9.before ([Value.ref g0, Value.int i, Value.int a2, Value.int a3] : List Value).toArray s = true := fun w9 h9 => hts0 w9 (List.mem_cons_of_mem _ h9)
  have hown : s.vm.findClass RX12 = some m.cls := findClass_of_methodNamed (x := yX12_seeds) B.named
  have hlocks := B.notSynchronized
  subst hsz
  have hD := hD0.self (sz := s.heap.size)
  generalize hAe : va_A [oX12 g0 m_refused m_kind m_figure m_weight m_got m_setting (nI n) (nI sn) dn m_tape m_letter m_letterAt m_told tp mat stm m_kept him ki crs m_price m_offer m_gets m_yes m_buys m_ends m_carried m_row rm m_keptRow m_likeGets m_likePrice m_ahead, cI aC m_kind 9 kf, cI aC m_figure 9 ff, cI aC m_weight 9 wf, cI aC m_got 8 qf, cI aC m_setting 5 stf, cI aC m_price 81 pf, cI aC m_offer 81 of, cI aC m_gets 90 gf, cI aC m_yes 9 yf, cI aC m_buys 9 bf, cI aC m_ends 9 ef, cI aC m_carried 9 cf, cI aC m_kept 100 kp, cI aC m_refused 7 mr] s.heap.size = A at hD ⊢
  have hA : ∀ q : Nat, s.heap.size ≤ q → A q := fun q h => by rw [← hAe]; exact Or.inr h
  obtain ⟨H, hHe⟩ : ∃ H : Heap, H = s.heap := ⟨_, rfl⟩
  have hS : va_S A s.heap H [] := by rw [hHe]; exact va_S.rf
  have hP : va_P (dC, dI) classes [oX12 g0 m_refused m_kind m_figure m_weight m_got m_setting (nI n) (nI sn) dn m_tape m_letter m_letterAt m_told tp mat stm m_kept him ki crs m_price m_offer m_gets m_yes m_buys m_ends m_carried m_row rm m_keptRow m_likeGets m_likePrice m_ahead, cI aC m_kind 9 kf, cI aC m_figure 9 ff, cI aC m_weight 9 wf, cI aC m_got 8 qf, cI aC m_setting 5 stf, cI aC m_price 81 pf, cI aC m_offer 81 of, cI aC m_gets 90 gf, cI aC m_yes 9 yf, cI aC m_buys 9 bf, cI aC m_ends 9 ef, cI aC m_carried 9 cf, cI aC m_kept 100 kp, cI aC m_refused 7 mr] H := by rw [hHe]; exact hP
  have hl := lv_entry ([Value.ref g0, Value.int i, Value.int a2, Value.int a3]) (n := 11) (Nat.le_of_ble_eq_true rfl)
  rw [lg_entry_eq]
  generalize (lg_sl ([Value.ref g0, Value.int i, Value.int a2, Value.int a3]) ++ List.replicate (11 - (lg_sl ([Value.ref g0, Value.int i, Value.int a2, Value.int a3])).length) Slot.unset).toArray = ls at hl ⊢
  have hl : lv_has ls 11 [(0, Value.ref g0), (1, Value.int i), (2, Value.int a2), (3, Value.int a3)] := hl
  rw [← hHe]
  have hn8 := EVS_n hev
  refine lv_aload_n hx hb dX12_seeds_0 rfl (lv_at hl 0 rfl) ?_
  refine lv_iload_n hx hb dX12_seeds_1 rfl (lv_at hl 1 rfl) ?_
  have hpd9 := pdf_N (cx := [oX12 g0 m_refused m_kind m_figure m_weight m_got m_setting (nI n) (nI sn) dn m_tape m_letter m_letterAt m_told tp mat stm m_kept him ki crs m_price m_offer m_gets m_yes m_buys m_ends m_carried m_row rm m_keptRow m_likeGets m_likePrice m_ahead]) hP hD hS hA [0] (by decide) rfl
  have hPc := hpd9.1
  have hDc := hpd9.2.1
  have hFc := hpd9.2.2
  clear hpd9
  refine va_calli (va_runV (As := [Value.int i]) (rest := []) ⟨hx, hb, hml, hown, hts⟩ (c_X12_isMan l dC dI aC H.size g0 m_refused m_kind m_figure m_weight m_got m_setting m_tape m_letter m_letterAt m_told m_kept m_price m_offer m_gets m_yes m_buys m_ends m_carried m_row m_keptRow m_likeGets m_likePrice m_ahead (nI n) (nI sn) dn tp mat stm him ki crs rm i ) ⟨(callB_of 1 hts (gG kw_878) rfl rfl rfl (hts _ (gw kw_13 rfl)) (hts _ (gw kw_875 rfl)) hd_X12_isMan ⟨Nat.le_of_ble_eq_true rfl, Nat.le_of_ble_eq_true rfl⟩), (hts _ (gw kw_877 rfl)), (hts _ (gw ks_43 rfl))⟩ ⟨fb_std, va_recv (q := (RX12, TX12, 33)) hK hPc (ci := 12) (q0 := 0) rfl rfl, pre_std hPc hK hDc hN⟩ rfl rfl hl.1 rfl (lv_room (Nat.le_of_ble_eq_true rfl)) dX12_seeds_2 ⟨Nat.le_of_ble_eq_true rfl, Nat.le_of_ble_eq_true rfl⟩) hS (fun q _ h => hFc q h) hFc (fun x_1 u9 t9 H1 locs ht hvm hw_1 hB hz1 hk1 hS => ?_)
  obtain ⟨hP1, hK1, hD1⟩ := hB
  rw [ht] at hP1
  clear hK1
  try dsimp only at hw_1
  have hpd9 : PDx (dC, dI) classes A H1 [cI aC m_kind 9 kf, cI aC m_figure 9 ff, cI aC m_weight 9 wf, cI aC m_got 8 qf, cI aC m_setting 5 stf, cI aC m_price 81 pf, cI aC m_offer 81 of, cI aC m_gets 90 gf, cI aC m_yes 9 yf, cI aC m_buys 9 bf, cI aC m_ends 9 ef, cI aC m_carried 9 cf, cI aC m_kept 100 kp, cI aC m_refused 7 mr, oX12 g0 m_refused m_kind m_figure m_weight m_got m_setting (nI n) (nI sn) dn m_tape m_letter m_letterAt m_told tp mat stm m_kept him ki crs m_price m_offer m_gets m_yes m_buys m_ends m_carried m_row rm m_keptRow m_likeGets m_likePrice m_ahead] := jn_N (wr := [cI aC m_kind 9 kf, cI aC m_figure 9 ff, cI aC m_weight 9 wf, cI aC m_got 8 qf, cI aC m_setting 5 stf, cI aC m_price 81 pf, cI aC m_offer 81 of, cI aC m_gets 90 gf, cI aC m_yes 9 yf, cI aC m_buys 9 bf, cI aC m_ends 9 ef, cI aC m_carried 9 cf, cI aC m_kept 100 kp, cI aC m_refused 7 mr]) hFc hk1 hP1 hD1 hP hD [0] [1, 2, 3, 4, 5, 6, 7, 8, 9, 10, 11, 12, 13, 14] rfl rfl (by decide) (by decide)
  have hP := hpd9.1
  have hD := hpd9.2
  clear hpd9
  generalize H1 = H at hP hS ⊢
  clear hPc hDc hFc hz1 hk1 hP1 hD1 ht hvm
  have hz_2 := hw_1
  refine lv_if_ne (tgt := 14) hx hb dX12_seeds_5 (by decide) (fun c_2 => ?_) (fun c_2 => ?_)
  · obtain ⟨a, ha8, ha9⟩ := OKI_ix hn8 (has_y hz_2 c_2)
    have hl : lv_has ls 11 [(0, Value.ref g0), (1, Value.int (nI a)), (2, Value.int a2), (3, Value.int a3)] := by rw [← ha9]; exact hl
    refine lv_iload_n hx hb dX12_seeds_14 rfl (lv_at hl 2 rfl) ?_
    refine lv_iconst (v := 1) hx hb dX12_seeds_15 (by decide) ?_
    refine lv_bipush (v := 30) hx hb dX12_seeds_16 (by decide) ?_
    have hpd9 := pdf_N (cx := []) hP hD hS hA [] (by decide) rfl
    have hPc := hpd9.1
    have hDc := hpd9.2.1
    have hFc := hpd9.2.2
    clear hpd9
    refine va_calli (va_runS (As := [Value.int a2, Value.int 1, Value.int 30]) (rest := []) ⟨hx, hb, hml, hown, hts⟩ (c_X12_bound l dC dI aC H.size a2 1 30 ) ⟨(callB_of 3 hts (gG kw_823) rfl rfl rfl (hts _ (gw kw_13 rfl)) (hts _ (gw kw_821 rfl)) hd_X12_bound ⟨Nat.le_of_ble_eq_true rfl, Nat.le_of_ble_eq_true rfl⟩), (hts _ (gw kw_822 rfl))⟩ ⟨fb_std, pre_std hPc hK hDc hN⟩ rfl rfl hl.1 rfl (lv_room (Nat.le_of_ble_eq_true rfl)) dX12_seeds_18 ⟨Nat.le_of_ble_eq_true rfl, Nat.le_of_ble_eq_true rfl⟩) hS (fun q _ h => hFc q h) hFc (fun x_3 u9 t9 H1 locs ht hvm hw_3 hB hz1 hk1 hS => ?_)
    obtain ⟨hP1, hK1, hD1⟩ := hB
    rw [ht] at hP1
    clear hK1
    try dsimp only at hw_3
    have hpd9 : PDx (dC, dI) classes A H1 [cI aC m_kind 9 kf, cI aC m_figure 9 ff, cI aC m_weight 9 wf, cI aC m_got 8 qf, cI aC m_setting 5 stf, cI aC m_price 81 pf, cI aC m_offer 81 of, cI aC m_gets 90 gf, cI aC m_yes 9 yf, cI aC m_buys 9 bf, cI aC m_ends 9 ef, cI aC m_carried 9 cf, cI aC m_kept 100 kp, cI aC m_refused 7 mr, oX12 g0 m_refused m_kind m_figure m_weight m_got m_setting (nI n) (nI sn) dn m_tape m_letter m_letterAt m_told tp mat stm m_kept him ki crs m_price m_offer m_gets m_yes m_buys m_ends m_carried m_row rm m_keptRow m_likeGets m_likePrice m_ahead] := jn_N (wr := [cI aC m_kind 9 kf, cI aC m_figure 9 ff, cI aC m_weight 9 wf, cI aC m_got 8 qf, cI aC m_setting 5 stf, cI aC m_price 81 pf, cI aC m_offer 81 of, cI aC m_gets 90 gf, cI aC m_yes 9 yf, cI aC m_buys 9 bf, cI aC m_ends 9 ef, cI aC m_carried 9 cf, cI aC m_kept 100 kp, cI aC m_refused 7 mr, oX12 g0 m_refused m_kind m_figure m_weight m_got m_setting (nI n) (nI sn) dn m_tape m_letter m_letterAt m_told tp mat stm m_kept him ki crs m_price m_offer m_gets m_yes m_buys m_ends m_carried m_row rm m_keptRow m_likeGets m_likePrice m_ahead]) hFc hk1 hP1 hD1 hP hD [] [0, 1, 2, 3, 4, 5, 6, 7, 8, 9, 10, 11, 12, 13, 14] rfl rfl (by decide) (by decide)
    have hP := hpd9.1
    have hD := hpd9.2
    clear hpd9
    generalize H1 = H at hP hS ⊢
    clear hPc hDc hFc hz1 hk1 hP1 hD1 ht hvm
    have hz_18 := hw_3
    refine lv_istore (lv' := [(4, Value.int x_3), (0, Value.ref g0), (1, Value.int (nI a)), (2, Value.int a2), (3, Value.int a3)]) hx hb dX12_seeds_21 hl (by decide) rfl (fun ls hl => ?_)
    refine lv_iload hx hb dX12_seeds_23 (lv_at hl 0 rfl) ?_
    refine lv_if_eq (tgt := 35) hx hb dX12_seeds_25 (by decide) (fun c_4 => ?_) (fun c_4 => ?_)
    · obtain ⟨nn, hnn, hne⟩ : ∃ nn, nn ≤ 30 ∧ a2 = nI nn := by
        obtain ⟨q, q1, q2⟩ := ix_of (n := 31) (by omega) (x := a2) (fun z => (bnd_0 hz_18 c_4).1 (Int32.lt_trans z (by decide))) (fun z => (bnd_0 hz_18 c_4).2 (Int32.lt_of_lt_of_le (by decide) z))
        exact ⟨q, by omega, q2⟩
      have hl : lv_has ls 11 [(4, Value.int x_3), (0, Value.ref g0), (1, Value.int (nI a)), (2, Value.int (nI nn)), (3, Value.int a3)] := by rw [← hne]; exact hl
      refine lv_iload_n hx hb dX12_seeds_35 rfl (lv_at hl 4 rfl) ?_
      refine lv_istore (lv' := [(5, Value.int a3), (4, Value.int x_3), (0, Value.ref g0), (1, Value.int (nI a)), (2, Value.int (nI nn)), (3, Value.int a3)]) hx hb dX12_seeds_36 hl (by decide) rfl (fun ls hl => ?_)
      refine lv_iconst (v := 0) hx hb dX12_seeds_38 (by decide) ?_
      refine lv_istore (lv' := [(6, Value.int 0), (5, Value.int a3), (4, Value.int x_3), (0, Value.ref g0), (1, Value.int (nI a)), (2, Value.int (nI nn)), (3, Value.int a3)]) hx hb dX12_seeds_39 hl (by decide) rfl (fun ls hl => ?_)
      refine lv_iconst (v := 0) hx hb dX12_seeds_41 (by decide) ?_
      refine lv_istore (lv' := [(7, Value.int 0), (6, Value.int 0), (5, Value.int a3), (4, Value.int x_3), (0, Value.ref g0), (1, Value.int (nI a)), (2, Value.int (nI nn)), (3, Value.int a3)]) hx hb dX12_seeds_42 hl (by decide) rfl (fun ls hl => ?_)
      have lp_44 : ∀ (fu : Nat) (k : Nat) (x5 : Int32) (x6 : Int32) (kic : Int32) (cuc : Int32) (kfc : Nat → Int32) (ffc : Nat → Int32) (wfc : Nat → Int32) (qfc : Nat → Int32) (stfc : Nat → Int32) (pfc : Nat → Int32) (ofc : Nat → Int32) (gfc : Nat → Int32) (yfc : Nat → Int32) (bfc : Nat → Int32) (efc : Nat → Int32) (cfc : Nat → Int32) (kpc : Nat → Int32) (hfu : nn - k < fu) (hk : k ≤ nn) (hse : x5 = (sev n K F W0 S5 a a3 k).1 ∧ x6 = (sev n K F W0 S5 a a3 k).2) (hrs : RS5 kf ff wf qf stf kfc ffc wfc qfc stfc) (hkp : ∀ q, q < 50 → kpc q = kp q) (H : Heap) (locs : List Loc) (ls : Array Slot), va_P (dC, dI) classes [cI aC m_kind 9 kfc, cI aC m_figure 9 ffc, cI aC m_weight 9 wfc, cI aC m_got 8 qfc, cI aC m_setting 5 stfc, cI aC m_price 81 pfc, cI aC m_offer 81 ofc, cI aC m_gets 90 gfc, cI aC m_yes 9 yfc, cI aC m_buys 9 bfc, cI aC m_ends 9 efc, cI aC m_carried 9 cfc, cI aC m_kept 100 kpc, cI aC m_refused 7 mr, oX12 g0 m_refused m_kind m_figure m_weight m_got m_setting (nI n) (nI sn) dn m_tape m_letter m_letterAt m_told tp mat stm m_kept him kic cuc m_price m_offer m_gets m_yes m_buys m_ends m_carried m_row rm m_keptRow m_likeGets m_likePrice m_ahead] H → va_D A [cI aC m_kind 9 kfc, cI aC m_figure 9 ffc, cI aC m_weight 9 wfc, cI aC m_got 8 qfc, cI aC m_setting 5 stfc, cI aC m_price 81 pfc, cI aC m_offer 81 ofc, cI aC m_gets 90 gfc, cI aC m_yes 9 yfc, cI aC m_buys 9 bfc, cI aC m_ends 9 efc, cI aC m_carried 9 cfc, cI aC m_kept 100 kpc, cI aC m_refused 7 mr, oX12 g0 m_refused m_kind m_figure m_weight m_got m_setting (nI n) (nI sn) dn m_tape m_letter m_letterAt m_told tp mat stm m_kept him kic cuc m_price m_offer m_gets m_yes m_buys m_ends m_carried m_row rm m_keptRow m_likeGets m_likePrice m_ahead] → va_S A s.heap H locs → lv_has ls 11 [(0, Value.ref g0), (1, Value.int (nI a)), (2, Value.int (nI nn)), (3, Value.int a3), (4, Value.int x_3), (5, Value.int x5), (6, Value.int x6), (7, Value.int (nI k))] → W p l e (headSpec (wW yX12_seeds cX12_seeds 11 (some .int)) ({ frames := 5, cells := 0, slots := 0, locals := 115 } : Room)).room s m ([Value.ref g0, Value.int i, Value.int a2, Value.int a3] : List Value).toArray below meth c H locs 0 0 (MQ below (va_Qi (fun (r : Int32) (u : Int32 × Int32 × (Nat → Int32) × (Nat → Int32) × (Nat → Int32) × (Nat → Int32) × (Nat → Int32) × (Nat → Int32) × (Nat → Int32) × (Nat → Int32) × (Nat → Int32) × (Nat → Int32) × (Nat → Int32) × (Nat → Int32) × (Nat → Int32) × (Nat → Int32)) => match u with | (ki2, cu2, kf2, ff2, wf2, qf2, stf2, pf2, of2, gf2, yf2, bf2, ef2, cf2, kq, mr2) => RS5 kf ff wf qf stf kf2 ff2 wf2 qf2 stf2 ∧ (∀ q, q < 50 → kq q = kp q) ∧ r = rSds n K F W0 S5 i a2 a3) (fun (u : Int32 × Int32 × (Nat → Int32) × (Nat → Int32) × (Nat → Int32) × (Nat → Int32) × (Nat → Int32) × (Nat → Int32) × (Nat → Int32) × (Nat → Int32) × (Nat → Int32) × (Nat → Int32) × (Nat → Int32) × (Nat → Int32) × (Nat → Int32) × (Nat → Int32)) (t : State) => match u with | (ki2, cu2, kf2, ff2, wf2, qf2, stf2, pf2, of2, gf2, yf2, bf2, ef2, cf2, kq, mr2) => va_P (dC, dI) classes [oX12 g0 m_refused m_kind m_figure m_weight m_got m_setting (nI n) (nI sn) dn m_tape m_letter m_letterAt m_told tp mat stm m_kept him ki2 cu2 m_price m_offer m_gets m_yes m_buys m_ends m_carried m_row rm m_keptRow m_likeGets m_likePrice m_ahead, cI aC m_kind 9 kf2, cI aC m_figure 9 ff2, cI aC m_weight 9 wf2, cI aC m_got 8 qf2, cI aC m_setting 5 stf2, cI aC m_price 81 pf2, cI aC m_offer 81 of2, cI aC m_gets 90 gf2, cI aC m_yes 9 yf2, cI aC m_buys 9 bf2, cI aC m_ends 9 ef2, cI aC m_carried 9 cf2, cI aC m_kept 100 kq, cI aC m_refused 7 mr2] t.heap ∧ va_K (dC, dI) classes (TY aC) t ∧ va_D A [oX12 g0 m_refused m_kind m_figure m_weight m_got m_setting (nI n) (nI sn) dn m_tape m_letter m_letterAt m_told tp mat stm m_kept him ki2 cu2 m_price m_offer m_gets m_yes m_buys m_ends m_carried m_row rm m_keptRow m_likeGets m_likePrice m_ahead, cI aC m_kind 9 kf2, cI aC m_figure 9 ff2, cI aC m_weight 9 wf2, cI aC m_got 8 qf2, cI aC m_setting 5 stf2, cI aC m_price 81 pf2, cI aC m_offer 81 of2, cI aC m_gets 90 gf2, cI aC m_yes 9 yf2, cI aC m_buys 9 bf2, cI aC m_ends 9 ef2, cI aC m_carried 9 cf2, cI aC m_kept 100 kq, cI aC m_refused 7 mr2]) A) ([Value.ref g0, Value.int i, Value.int a2, Value.int a3] : List Value).toArray s 0 0 A) (F0 m 44 ls []) := by
        intro fu
        induction fu with
        | zero => intro k x5 x6 kic cuc kfc ffc wfc qfc stfc pfc ofc gfc yfc bfc efc cfc kpc hfu; exact absurd hfu (Nat.not_lt_zero _)
        | succ fu ih_44 =>
          intro k x5 x6 kic cuc kfc ffc wfc qfc stfc pfc ofc gfc yfc bfc efc cfc kpc hfu hk hse hrs hkp H locs ls hP hD hS hl
          refine lv_iload hx hb dX12_seeds_44 (lv_at hl 7 rfl) ?_
          refine lv_iload_n hx hb dX12_seeds_46 rfl (lv_at hl 2 rfl) ?_
          refine lv_icmp_ge (tgt := 181) hx hb dX12_seeds_47 (by decide) (fun c_5 => ?_) (fun c_5 => ?_)
          · have hkn : k = nn := by
              rcases Nat.lt_or_ge k nn with q | q
              · exact absurd c_5 (nI_ge q (by omega))
              · omega
            refine lv_iload hx hb dX12_seeds_181 (lv_at hl 6 rfl) ?_
            have hpd9 := pd_N (cx := [oX12 g0 m_refused m_kind m_figure m_weight m_got m_setting (nI n) (nI sn) dn m_tape m_letter m_letterAt m_told tp mat stm m_kept him kic cuc m_price m_offer m_gets m_yes m_buys m_ends m_carried m_row rm m_keptRow m_likeGets m_likePrice m_ahead, cI aC m_kind 9 kfc, cI aC m_figure 9 ffc, cI aC m_weight 9 wfc, cI aC m_got 8 qfc, cI aC m_setting 5 stfc, cI aC m_price 81 pfc, cI aC m_offer 81 ofc, cI aC m_gets 90 gfc, cI aC m_yes 9 yfc, cI aC m_buys 9 bfc, cI aC m_ends 9 efc, cI aC m_carried 9 cfc, cI aC m_kept 100 kpc, cI aC m_refused 7 mr]) hP hD [14, 0, 1, 2, 3, 4, 5, 6, 7, 8, 9, 10, 11, 12, 13] (by decide) rfl
            have hP9 := hpd9.1
            have hD9 := hpd9.2
            refine W.widen (k := 0) (n := 0) (by omega) (by omega) ?_
            exact W.iret (v := x6) hx hb hr (fun t ht hW => ⟨⟨x6, (kic, cuc, kfc, ffc, wfc, qfc, stfc, pfc, ofc, gfc, yfc, bfc, efc, cfc, kpc, mr), rfl, ⟨hrs, hkp, by rw [hse.2]; unfold rSds; rw [if_pos (has_y hz_2 c_2), if_neg (bnd_0 hz_18 c_4).1, if_neg (bnd_0 hz_18 c_4).2, hne, ha9, nI_clamp (by omega), nI_clamp (by omega), hkn]⟩, by rw [ht]; exact hP9, va_K.moved hW.alike hK, hD9⟩, hS.F ht⟩) hS.2.2 dX12_seeds_183
          · have hlt : k < nn := by
              rcases Nat.lt_or_ge k nn with q | q
              · exact q
              · exact absurd (nI_le q (by omega)) c_5
            have hevc := RS5_ev hev hrs
            refine lv_aload_n hx hb dX12_seeds_50 rfl (lv_at hl 0 rfl) ?_
            refine lv_iconst (v := 1) hx hb dX12_seeds_51 (by decide) ?_
            refine lv_iconst (v := 1) hx hb dX12_seeds_52 (by decide) ?_
            have hpd9 := pdf_N (cx := [oX12 g0 m_refused m_kind m_figure m_weight m_got m_setting (nI n) (nI sn) dn m_tape m_letter m_letterAt m_told tp mat stm m_kept him kic cuc m_price m_offer m_gets m_yes m_buys m_ends m_carried m_row rm m_keptRow m_likeGets m_likePrice m_ahead, cI aC m_kept 100 kpc, cI aC m_kind 9 kfc, cI aC m_figure 9 ffc, cI aC m_weight 9 wfc, cI aC m_got 8 qfc, cI aC m_setting 5 stfc]) hP hD hS hA [14, 12, 0, 1, 2, 3, 4] (by decide) rfl
            have hPc := hpd9.1
            have hDc := hpd9.2.1
            have hFc := hpd9.2.2
            clear hpd9
            refine va_callv (va_runV (As := [Value.int 1, Value.int 1]) (rest := []) ⟨hx, hb, hml, hown, hts⟩ (c_X12_passesAll_k l dC dI aC H.size g0 m_refused m_kind m_figure m_weight m_got m_setting m_tape m_letter m_letterAt m_told m_kept m_price m_offer m_gets m_yes m_buys m_ends m_carried m_row m_keptRow m_likeGets m_likePrice m_ahead (nI n) (nI sn) dn tp mat stm him kic cuc rm kpc 1 kfc ffc wfc qfc stfc (by omega)) ⟨(callB_of 2 hts (gG kw_850) rfl rfl rfl (hts _ (gw kw_13 rfl)) (hts _ (gw kw_847 rfl)) hd_X12_passesAll ⟨Nat.le_of_ble_eq_true rfl, Nat.le_of_ble_eq_true rfl⟩), (hts _ (gw kw_849 rfl)), (hts _ (gw ks_39 rfl))⟩ ⟨fb_std, va_recv (q := (RX12, TX12, 33)) hK hPc (ci := 12) (q0 := 0) rfl rfl, pre_std hPc hK hDc hN⟩ rfl rfl hl.1 rfl (lv_room (Nat.le_of_ble_eq_true rfl)) dX12_seeds_53 ⟨Nat.le_of_ble_eq_true rfl, Nat.le_of_ble_eq_true rfl⟩) hS (fun q _ h => hFc q h) hFc (fun u9 t9 H1 locs ht hvm hw_6 hB hz1 hk1 hS => ?_)
            obtain ⟨u_7, u_8⟩ := u9
            obtain ⟨hP1, hK1, hD1⟩ := hB
            rw [ht] at hP1
            clear hK1
            try dsimp only at hw_6
            have hpd9 : PDx (dC, dI) classes A H1 [cI aC m_price 81 pfc, cI aC m_offer 81 ofc, cI aC m_gets 90 gfc, cI aC m_yes 9 yfc, cI aC m_buys 9 bfc, cI aC m_ends 9 efc, cI aC m_carried 9 cfc, cI aC m_refused 7 mr, oX12 g0 m_refused m_kind m_figure m_weight m_got m_setting (nI n) (nI sn) dn m_tape m_letter m_letterAt m_told tp mat stm m_kept him 1 u_7 m_price m_offer m_gets m_yes m_buys m_ends m_carried m_row rm m_keptRow m_likeGets m_likePrice m_ahead, cI aC m_kept 100 u_8, cI aC m_kind 9 kfc, cI aC m_figure 9 ffc, cI aC m_weight 9 wfc, cI aC m_got 8 qfc, cI aC m_setting 5 stfc] := jn_N (wr := [cI aC m_price 81 pfc, cI aC m_offer 81 ofc, cI aC m_gets 90 gfc, cI aC m_yes 9 yfc, cI aC m_buys 9 bfc, cI aC m_ends 9 efc, cI aC m_carried 9 cfc, cI aC m_refused 7 mr]) hFc hk1 hP1 hD1 hP hD [14, 12, 0, 1, 2, 3, 4] [5, 6, 7, 8, 9, 10, 11, 13] rfl rfl (by decide) (by decide)
            have hP := hpd9.1
            have hD := hpd9.2
            clear hpd9
            generalize H1 = H at hP hS ⊢
            clear hPc hDc hFc hz1 hk1 hP1 hD1 ht hvm
            obtain ⟨hpk, hpq⟩ := hw_6
            refine lv_iload_n hx hb dX12_seeds_56 rfl (lv_at hl 1 rfl) ?_
            refine lv_istore (lv' := [(8, Value.int (nI a)), (0, Value.ref g0), (1, Value.int (nI a)), (2, Value.int (nI nn)), (3, Value.int a3), (4, Value.int x_3), (5, Value.int x5), (6, Value.int x6), (7, Value.int (nI k))]) hx hb dX12_seeds_57 hl (by decide) rfl (fun ls hl => ?_)
            refine lv_aload_n hx hb dX12_seeds_59 rfl (lv_at hl 1 rfl) ?_
            refine va_get (D := (dC, dI)) (ci := 12) (v := Value.int (nI n)) (C := RX12) (T := TX12) (N := 33) hx hb hts inX12 hown hK hP 8 rfl rfl 6 (by decide) (hts _ (gw kw_723 rfl)) (fun _ h9 => h9) rfl dX12_seeds_60 ?_
            refine lv_iconst (v := 1) hx hb dX12_seeds_63 (by decide) ?_
            refine lv_isub hx hb dX12_seeds_64 ?_
            refine lv_topi (fun x_9 e_9 => ?_)
            refine lv_istore (lv' := [(9, Value.int x_9), (8, Value.int (nI a)), (0, Value.ref g0), (1, Value.int (nI a)), (2, Value.int (nI nn)), (3, Value.int a3), (4, Value.int x_3), (5, Value.int x5), (6, Value.int x6), (7, Value.int (nI k))]) hx hb dX12_seeds_65 hl (by decide) rfl (fun ls hl => ?_)
            have lp_67 : ∀ (fu : Nat) (kk : Nat) (y5 : Int32) (z8 : Nat) (x9 : Int32) (s9 : Nat → Nat) (kd : Nat → Int32) (fd : Nat → Int32) (wd : Nat → Int32) (hfu : kk < fu) (hkk : kk ≤ n) (hx9 : x9 = iI ((kk : Int) - 1)) (hz8 : z8 < n ∧ s9 z8 = a) (hsd : sdr (n - 1) x5 (fun q => q) = sdr (kk - 1) y5 s9) (hpr : PRM n s9) (hs0 : ∀ q, q < n → kd q = kfc (s9 q)) (hs1 : ∀ q, q < n → fd q = ffc (s9 q)) (hs2 : ∀ q, q < n → wd q = wfc (s9 q)) (H : Heap) (locs : List Loc) (ls : Array Slot), va_P (dC, dI) classes [cI aC m_price 81 pfc, cI aC m_offer 81 ofc, cI aC m_gets 90 gfc, cI aC m_yes 9 yfc, cI aC m_buys 9 bfc, cI aC m_ends 9 efc, cI aC m_carried 9 cfc, cI aC m_refused 7 mr, oX12 g0 m_refused m_kind m_figure m_weight m_got m_setting (nI n) (nI sn) dn m_tape m_letter m_letterAt m_told tp mat stm m_kept him 1 u_7 m_price m_offer m_gets m_yes m_buys m_ends m_carried m_row rm m_keptRow m_likeGets m_likePrice m_ahead, cI aC m_kept 100 u_8, cI aC m_kind 9 kd, cI aC m_figure 9 fd, cI aC m_weight 9 wd, cI aC m_got 8 qfc, cI aC m_setting 5 stfc] H → va_D A [cI aC m_price 81 pfc, cI aC m_offer 81 ofc, cI aC m_gets 90 gfc, cI aC m_yes 9 yfc, cI aC m_buys 9 bfc, cI aC m_ends 9 efc, cI aC m_carried 9 cfc, cI aC m_refused 7 mr, oX12 g0 m_refused m_kind m_figure m_weight m_got m_setting (nI n) (nI sn) dn m_tape m_letter m_letterAt m_told tp mat stm m_kept him 1 u_7 m_price m_offer m_gets m_yes m_buys m_ends m_carried m_row rm m_keptRow m_likeGets m_likePrice m_ahead, cI aC m_kept 100 u_8, cI aC m_kind 9 kd, cI aC m_figure 9 fd, cI aC m_weight 9 wd, cI aC m_got 8 qfc, cI aC m_setting 5 stfc] → va_S A s.heap H locs → lv_has ls 11 [(0, Value.ref g0), (1, Value.int (nI a)), (2, Value.int (nI nn)), (3, Value.int a3), (4, Value.int x_3), (5, Value.int y5), (6, Value.int x6), (7, Value.int (nI k)), (8, Value.int (nI z8)), (9, Value.int x9)] → W p l e (headSpec (wW yX12_seeds cX12_seeds 11 (some .int)) ({ frames := 5, cells := 0, slots := 0, locals := 115 } : Room)).room s m ([Value.ref g0, Value.int i, Value.int a2, Value.int a3] : List Value).toArray below meth c H locs 0 0 (MQ below (va_Qi (fun (r : Int32) (u : Int32 × Int32 × (Nat → Int32) × (Nat → Int32) × (Nat → Int32) × (Nat → Int32) × (Nat → Int32) × (Nat → Int32) × (Nat → Int32) × (Nat → Int32) × (Nat → Int32) × (Nat → Int32) × (Nat → Int32) × (Nat → Int32) × (Nat → Int32) × (Nat → Int32)) => match u with | (ki2, cu2, kf2, ff2, wf2, qf2, stf2, pf2, of2, gf2, yf2, bf2, ef2, cf2, kq, mr2) => RS5 kf ff wf qf stf kf2 ff2 wf2 qf2 stf2 ∧ (∀ q, q < 50 → kq q = kp q) ∧ r = rSds n K F W0 S5 i a2 a3) (fun (u : Int32 × Int32 × (Nat → Int32) × (Nat → Int32) × (Nat → Int32) × (Nat → Int32) × (Nat → Int32) × (Nat → Int32) × (Nat → Int32) × (Nat → Int32) × (Nat → Int32) × (Nat → Int32) × (Nat → Int32) × (Nat → Int32) × (Nat → Int32) × (Nat → Int32)) (t : State) => match u with | (ki2, cu2, kf2, ff2, wf2, qf2, stf2, pf2, of2, gf2, yf2, bf2, ef2, cf2, kq, mr2) => va_P (dC, dI) classes [oX12 g0 m_refused m_kind m_figure m_weight m_got m_setting (nI n) (nI sn) dn m_tape m_letter m_letterAt m_told tp mat stm m_kept him ki2 cu2 m_price m_offer m_gets m_yes m_buys m_ends m_carried m_row rm m_keptRow m_likeGets m_likePrice m_ahead, cI aC m_kind 9 kf2, cI aC m_figure 9 ff2, cI aC m_weight 9 wf2, cI aC m_got 8 qf2, cI aC m_setting 5 stf2, cI aC m_price 81 pf2, cI aC m_offer 81 of2, cI aC m_gets 90 gf2, cI aC m_yes 9 yf2, cI aC m_buys 9 bf2, cI aC m_ends 9 ef2, cI aC m_carried 9 cf2, cI aC m_kept 100 kq, cI aC m_refused 7 mr2] t.heap ∧ va_K (dC, dI) classes (TY aC) t ∧ va_D A [oX12 g0 m_refused m_kind m_figure m_weight m_got m_setting (nI n) (nI sn) dn m_tape m_letter m_letterAt m_told tp mat stm m_kept him ki2 cu2 m_price m_offer m_gets m_yes m_buys m_ends m_carried m_row rm m_keptRow m_likeGets m_likePrice m_ahead, cI aC m_kind 9 kf2, cI aC m_figure 9 ff2, cI aC m_weight 9 wf2, cI aC m_got 8 qf2, cI aC m_setting 5 stf2, cI aC m_price 81 pf2, cI aC m_offer 81 of2, cI aC m_gets 90 gf2, cI aC m_yes 9 yf2, cI aC m_buys 9 bf2, cI aC m_ends 9 ef2, cI aC m_carried 9 cf2, cI aC m_kept 100 kq, cI aC m_refused 7 mr2]) A) ([Value.ref g0, Value.int i, Value.int a2, Value.int a3] : List Value).toArray s 0 0 A) (F0 m 67 ls []) := by
              intro fu
              induction fu with
              | zero => intro kk y5 z8 x9 s9 kd fd wd hfu; exact absurd hfu (Nat.not_lt_zero _)
              | succ fu ih_67 =>
                intro kk y5 z8 x9 s9 kd fd wd hfu hkk hx9 hz8 hsd hpr hs0 hs1 hs2 H locs ls hP hD hS hl
                refine lv_iload hx hb dX12_seeds_67 (lv_at hl 9 rfl) ?_
                refine lv_if_le (tgt := 150) hx hb dX12_seeds_69 (by decide) (fun c_10 => ?_) (fun c_10 => ?_)
                · have hk0 : kk - 1 = 0 := by
                    have h8 := c_10
                    rw [hx9, ← iI_0, iI_le (by unfold sm; omega) (by unfold sm; omega)] at h8
                    omega
                  rw [hk0] at hsd
                  have hse9 : sds n x5 = s9 := by unfold sds; rw [hsd]; rfl
                  have hsz9 : sdz n x5 = y5 := by unfold sdz; rw [hsd]; rfl
                  have hpl9 : plc (sds n x5) a n = z8 := by rw [hse9]; exact plc_eq hpr hz8.1 hz8.2 n (Nat.le_refl n) hz8.1
                  have hevb := EVS_pm (s := sds n x5) (tk := kd) (tf := fd) (tw := wd) hevc (fun q hq => by rw [hse9]; exact hpr.1 q hq) (fun q hq => by rw [hse9]; exact hs0 q hq) (fun q hq => by rw [hse9]; exact hs1 q hq) (fun q hq => by rw [hse9]; exact hs2 q hq) (fun _ _ => rfl)
                  refine lv_aload_n hx hb dX12_seeds_150 rfl (lv_at hl 0 rfl) ?_
                  have hpd9 := pdf_N (cx := [oX12 g0 m_refused m_kind m_figure m_weight m_got m_setting (nI n) (nI sn) dn m_tape m_letter m_letterAt m_told tp mat stm m_kept him 1 u_7 m_price m_offer m_gets m_yes m_buys m_ends m_carried m_row rm m_keptRow m_likeGets m_likePrice m_ahead, cI aC m_kind 9 kd, cI aC m_figure 9 fd, cI aC m_weight 9 wd, cI aC m_setting 5 stfc, cI aC m_price 81 pfc, cI aC m_offer 81 ofc, cI aC m_gets 90 gfc, cI aC m_yes 9 yfc, cI aC m_buys 9 bfc, cI aC m_ends 9 efc, cI aC m_carried 9 cfc]) hP hD hS hA [8, 10, 11, 12, 14, 0, 1, 2, 3, 4, 5, 6] (by decide) rfl
                  have hPc := hpd9.1
                  have hDc := hpd9.2.1
                  have hFc := hpd9.2.2
                  clear hpd9
                  refine va_callv (va_runV (As := []) (rest := []) ⟨hx, hb, hml, hown, hts⟩ (c_X12_solvesAll l dC dI aC H.size g0 m_refused m_kind m_figure m_weight m_got m_setting m_tape m_letter m_letterAt m_told m_kept m_price m_offer m_gets m_yes m_buys m_ends m_carried m_row m_keptRow m_likeGets m_likePrice m_ahead (nI sn) dn tp mat stm him 1 u_7 rm n kd fd wd stfc pfc ofc gfc yfc bfc efc cfc (fun q => K (sds n x5 q)) (fun q => F (sds n x5 q)) (fun q => W0 (sds n x5 q)) (S5 0) (PO n (fun q => K (sds n x5 q)) (fun q => F (sds n x5 q)) (fun q => W0 (sds n x5 q)) S5) (hevb.1) (PO_cl hevb)) ⟨(callB_of 0 hts (gG kw_896) rfl rfl rfl (hts _ (gw kw_13 rfl)) (hts _ (gw kw_893 rfl)) hd_X12_solvesAll ⟨Nat.le_of_ble_eq_true rfl, Nat.le_of_ble_eq_true rfl⟩), (hts _ (gw kw_895 rfl)), (hts _ (gw ks_45 rfl))⟩ ⟨fb_std, va_recv (q := (RX12, TX12, 33)) hK hPc (ci := 12) (q0 := 0) rfl rfl, pre_std hPc hK hDc hN⟩ rfl rfl hl.1 rfl (lv_room (Nat.le_of_ble_eq_true rfl)) dX12_seeds_151 ⟨Nat.le_of_ble_eq_true rfl, Nat.le_of_ble_eq_true rfl⟩) hS (fun q _ h => hFc q h) hFc (fun u9 t9 H1 locs ht hvm hw_11 hB hz1 hk1 hS => ?_)
                  obtain ⟨u_12, u_13, u_14, u_15, u_16, u_17, u_18⟩ := u9
                  obtain ⟨hP1, hK1, hD1⟩ := hB
                  rw [ht] at hP1
                  clear hK1
                  try dsimp only at hw_11
                  have hpd9 : PDx (dC, dI) classes A H1 [cI aC m_refused 7 mr, cI aC m_kept 100 u_8, cI aC m_got 8 qfc, oX12 g0 m_refused m_kind m_figure m_weight m_got m_setting (nI n) (nI sn) dn m_tape m_letter m_letterAt m_told tp mat stm m_kept him 1 u_7 m_price m_offer m_gets m_yes m_buys m_ends m_carried m_row rm m_keptRow m_likeGets m_likePrice m_ahead, cI aC m_kind 9 kd, cI aC m_figure 9 fd, cI aC m_weight 9 wd, cI aC m_setting 5 stfc, cI aC m_price 81 u_12, cI aC m_offer 81 u_13, cI aC m_gets 90 u_14, cI aC m_yes 9 u_15, cI aC m_buys 9 u_16, cI aC m_ends 9 u_17, cI aC m_carried 9 u_18] := jn_N (wr := [cI aC m_refused 7 mr, cI aC m_kept 100 u_8, cI aC m_got 8 qfc]) hFc hk1 hP1 hD1 hP hD [8, 10, 11, 12, 14, 0, 1, 2, 3, 4, 5, 6] [7, 9, 13] rfl rfl (by decide) (by decide)
                  have hP := hpd9.1
                  have hD := hpd9.2
                  clear hpd9
                  generalize H1 = H at hP hS ⊢
                  clear hPc hDc hFc hz1 hk1 hP1 hD1 ht hvm
                  have hm1 := hw_11
                  refine lv_iload hx hb dX12_seeds_154 (lv_at hl 6 rfl) ?_
                  refine lv_aload_n hx hb dX12_seeds_156 rfl (lv_at hl 0 rfl) ?_
                  refine va_get (D := (dC, dI)) (ci := 12) (v := Value.ref m_gets) (C := RX12) (T := TX12) (N := 33) hx hb hts inX12 hown hK hP 3 rfl rfl 22 (by decide) (hts _ (gw kw_739 rfl)) (fun _ h9 => h9) rfl dX12_seeds_157 ?_
                  refine lv_iload hx hb dX12_seeds_160 (lv_at hl 8 rfl) ?_
                  have h_19 : vp_in (nI z8) 90 := vp_in_nI (by omega) (by omega)
                  refine va_iald hx hb hK hP 10 0 rfl rfl h_19 dX12_seeds_162 ?_
                  refine lv_topi (fun x_20 e_20 => ?_)
                  have h7 := (hm1 0 (by omega)).2.2.1 z8 (by omega) hz8.1
                  rw [Nat.mul_zero, Nat.zero_add] at h7
                  have h9 : x_20 = iI (zS (PO n (fun q => K (sds n x5 q)) (fun q => F (sds n x5 q)) (fun q => W0 (sds n x5 q)) S5) 0 z8) := by rw [e_20, nI_clamp (by omega)]; exact h7
                  subst h9
                  have hpd9 := pdf_N (cx := []) hP hD hS hA [] (by decide) rfl
                  have hPc := hpd9.1
                  have hDc := hpd9.2.1
                  have hFc := hpd9.2.2
                  clear hpd9
                  refine va_calli (va_runS (As := [Value.int (iI (zS (PO n (fun q => K (sds n x5 q)) (fun q => F (sds n x5 q)) (fun q => W0 (sds n x5 q)) S5) 0 z8))]) (rest := [Value.int x6]) ⟨hx, hb, hml, hown, hts⟩ (c_X12_above_z l dC dI aC H.size (zS (PO n (fun q => K (sds n x5 q)) (fun q => F (sds n x5 q)) (fun q => W0 (sds n x5 q)) S5) 0 z8) (zS_sm hevb (by omega))) ⟨(callB_of 1 hts (gG kw_907) rfl rfl rfl (hts _ (gw kw_13 rfl)) (hts _ (gw kw_905 rfl)) hd_X12_above ⟨Nat.le_of_ble_eq_true rfl, Nat.le_of_ble_eq_true rfl⟩), (hts _ (gw kw_906 rfl))⟩ ⟨fb_std, pre_std hPc hK hDc hN⟩ rfl rfl hl.1 rfl (lv_room (Nat.le_of_ble_eq_true rfl)) dX12_seeds_163 ⟨Nat.le_of_ble_eq_true rfl, Nat.le_of_ble_eq_true rfl⟩) hS (fun q _ h => hFc q h) hFc (fun x_21 u9 t9 H1 locs ht hvm hw_21 hB hz1 hk1 hS => ?_)
                  obtain ⟨hP1, hK1, hD1⟩ := hB
                  rw [ht] at hP1
                  clear hK1
                  try dsimp only at hw_21
                  have hpd9 : PDx (dC, dI) classes A H1 [cI aC m_refused 7 mr, cI aC m_kept 100 u_8, cI aC m_got 8 qfc, oX12 g0 m_refused m_kind m_figure m_weight m_got m_setting (nI n) (nI sn) dn m_tape m_letter m_letterAt m_told tp mat stm m_kept him 1 u_7 m_price m_offer m_gets m_yes m_buys m_ends m_carried m_row rm m_keptRow m_likeGets m_likePrice m_ahead, cI aC m_kind 9 kd, cI aC m_figure 9 fd, cI aC m_weight 9 wd, cI aC m_setting 5 stfc, cI aC m_price 81 u_12, cI aC m_offer 81 u_13, cI aC m_gets 90 u_14, cI aC m_yes 9 u_15, cI aC m_buys 9 u_16, cI aC m_ends 9 u_17, cI aC m_carried 9 u_18] := jn_N (wr := [cI aC m_refused 7 mr, cI aC m_kept 100 u_8, cI aC m_got 8 qfc, oX12 g0 m_refused m_kind m_figure m_weight m_got m_setting (nI n) (nI sn) dn m_tape m_letter m_letterAt m_told tp mat stm m_kept him 1 u_7 m_price m_offer m_gets m_yes m_buys m_ends m_carried m_row rm m_keptRow m_likeGets m_likePrice m_ahead, cI aC m_kind 9 kd, cI aC m_figure 9 fd, cI aC m_weight 9 wd, cI aC m_setting 5 stfc, cI aC m_price 81 u_12, cI aC m_offer 81 u_13, cI aC m_gets 90 u_14, cI aC m_yes 9 u_15, cI aC m_buys 9 u_16, cI aC m_ends 9 u_17, cI aC m_carried 9 u_18]) hFc hk1 hP1 hD1 hP hD [] [0, 1, 2, 3, 4, 5, 6, 7, 8, 9, 10, 11, 12, 13, 14] rfl rfl (by decide) (by decide)
                  have hP := hpd9.1
                  have hD := hpd9.2
                  clear hpd9
                  generalize H1 = H at hP hS ⊢
                  clear hPc hDc hFc hz1 hk1 hP1 hD1 ht hvm
                  have hab9 := hw_21
                  have h9 : x_21 = svl n K F W0 S5 a x5 := by rw [hab9]; unfold svl; rw [hpl9]
                  subst h9
                  refine lv_iadd hx hb dX12_seeds_166 ?_
                  refine lv_topi (fun x_22 e_22 => ?_)
                  refine lv_istore (lv' := [(6, Value.int x_22), (0, Value.ref g0), (1, Value.int (nI a)), (2, Value.int (nI nn)), (3, Value.int a3), (4, Value.int x_3), (5, Value.int y5), (7, Value.int (nI k)), (8, Value.int (nI z8)), (9, Value.int x9)]) hx hb dX12_seeds_167 hl (by decide) rfl (fun ls hl => ?_)
                  have hse2 : y5 = (sev n K F W0 S5 a a3 (k + 1)).1 ∧ x_22 = (sev n K F W0 S5 a a3 (k + 1)).2 := ⟨by show _ = sdz n (sev n K F W0 S5 a a3 k).1; rw [← hse.1]; exact hsz9.symm, by show _ = (sev n K F W0 S5 a a3 k).2 + svl n K F W0 S5 a (sev n K F W0 S5 a a3 k).1; rw [← hse.1, ← hse.2]; exact e_22⟩
                  refine lv_aload_n hx hb dX12_seeds_169 rfl (lv_at hl 1 rfl) ?_
                  refine lv_iconst (v := 1) hx hb dX12_seeds_170 (by decide) ?_
                  refine lv_iconst (v := 0) hx hb dX12_seeds_171 (by decide) ?_
                  have hpd9 := pdf_N (cx := [oX12 g0 m_refused m_kind m_figure m_weight m_got m_setting (nI n) (nI sn) dn m_tape m_letter m_letterAt m_told tp mat stm m_kept him 1 u_7 m_price m_offer m_gets m_yes m_buys m_ends m_carried m_row rm m_keptRow m_likeGets m_likePrice m_ahead, cI aC m_kept 100 u_8, cI aC m_kind 9 kd, cI aC m_figure 9 fd, cI aC m_weight 9 wd, cI aC m_got 8 qfc, cI aC m_setting 5 stfc]) hP hD hS hA [3, 1, 4, 5, 6, 2, 7] (by decide) rfl
                  have hPc := hpd9.1
                  have hDc := hpd9.2.1
                  have hFc := hpd9.2.2
                  clear hpd9
                  refine va_callv (va_runV (As := [Value.int 1, Value.int 0]) (rest := []) ⟨hx, hb, hml, hown, hts⟩ (c_X12_passesAll_l l dC dI aC H.size g0 m_refused m_kind m_figure m_weight m_got m_setting m_tape m_letter m_letterAt m_told m_kept m_price m_offer m_gets m_yes m_buys m_ends m_carried m_row m_keptRow m_likeGets m_likePrice m_ahead (nI n) (nI sn) dn tp mat stm him 1 u_7 rm u_8 1 kd fd wd qfc stfc (by omega)) ⟨(callB_of 2 hts (gG kw_850) rfl rfl rfl (hts _ (gw kw_13 rfl)) (hts _ (gw kw_847 rfl)) hd_X12_passesAll ⟨Nat.le_of_ble_eq_true rfl, Nat.le_of_ble_eq_true rfl⟩), (hts _ (gw kw_849 rfl)), (hts _ (gw ks_39 rfl))⟩ ⟨fb_std, va_recv (q := (RX12, TX12, 33)) hK hPc (ci := 12) (q0 := 0) rfl rfl, pre_std hPc hK hDc hN⟩ rfl rfl hl.1 rfl (lv_room (Nat.le_of_ble_eq_true rfl)) dX12_seeds_172 ⟨Nat.le_of_ble_eq_true rfl, Nat.le_of_ble_eq_true rfl⟩) hS (fun q _ h => hFc q h) hFc (fun u9 t9 H1 locs ht hvm hw_23 hB hz1 hk1 hS => ?_)
                  obtain ⟨u_24, u_25, u_26, u_27, u_28, u_29, u_30, u_31, u_32⟩ := u9
                  obtain ⟨hP1, hK1, hD1⟩ := hB
                  rw [ht] at hP1
                  clear hK1
                  try dsimp only at hw_23
                  have hpd9 : PDx (dC, dI) classes A H1 [cI aC m_refused 7 mr, cI aC m_price 81 u_12, cI aC m_offer 81 u_13, cI aC m_gets 90 u_14, cI aC m_yes 9 u_15, cI aC m_buys 9 u_16, cI aC m_ends 9 u_17, cI aC m_carried 9 u_18, oX12 g0 m_refused m_kind m_figure m_weight m_got m_setting u_25 u_26 u_27 m_tape m_letter m_letterAt m_told tp mat stm m_kept him 0 u_24 m_price m_offer m_gets m_yes m_buys m_ends m_carried m_row rm m_keptRow m_likeGets m_likePrice m_ahead, cI aC m_kept 100 u_8, cI aC m_kind 9 u_28, cI aC m_figure 9 u_29, cI aC m_weight 9 u_30, cI aC m_got 8 u_31, cI aC m_setting 5 u_32] := jn_N (wr := [cI aC m_refused 7 mr, cI aC m_price 81 u_12, cI aC m_offer 81 u_13, cI aC m_gets 90 u_14, cI aC m_yes 9 u_15, cI aC m_buys 9 u_16, cI aC m_ends 9 u_17, cI aC m_carried 9 u_18]) hFc hk1 hP1 hD1 hP hD [3, 1, 4, 5, 6, 2, 7] [0, 8, 9, 10, 11, 12, 13, 14] rfl rfl (by decide) (by decide)
                  have hP := hpd9.1
                  have hD := hpd9.2
                  clear hpd9
                  generalize H1 = H at hP hS ⊢
                  clear hPc hDc hFc hz1 hk1 hP1 hD1 ht hvm
                  obtain ⟨hre, hr1, hr2, hr3⟩ := PK_eq hpk hw_23
                  have h9 : u_25 = nI n := hr1
                  subst h9
                  have h9 : u_26 = nI sn := hr2
                  subst h9
                  have h9 : dn = u_27 := Eq.symm (show u_27 = dn from hr3)
                  subst h9
                  obtain ⟨x_33, e_33⟩ : ∃ y : Int32, y = (nI k) + 1 := ⟨_, rfl⟩
                  refine lv_iinc (v := x_33) (lv' := [(7, Value.int x_33), (6, Value.int x_22), (0, Value.ref g0), (1, Value.int (nI a)), (2, Value.int (nI nn)), (3, Value.int a3), (4, Value.int x_3), (5, Value.int y5), (8, Value.int (nI z8)), (9, Value.int x9)]) hx hb dX12_seeds_175 hl (k := 7) rfl (by rw [e_33]; rfl) (by decide) rfl (fun ls hl => ?_)
                  have h9 : x_33 = nI (k + 1) := by rw [e_33, nI_1]
                  subst h9
                  refine lv_goto (tgt := 44) hx hb dX12_seeds_178 (by decide) ?_
                  exact ih_44 (k + 1) y5 x_22 0 u_24 u_28 u_29 u_30 u_31 u_32 u_12 u_13 u_14 u_15 u_16 u_17 u_18 u_8 (by omega) (by omega) (hse2) (RS5_t hrs hre) (fun q hq => (hpq q (by omega)).trans (hkp q hq)) _ _ _ (hP.sub [10, 11, 12, 13, 14, 1, 2, 3, 4, 5, 6, 7, 9, 0, 8] rfl) (hD.sub [10, 11, 12, 13, 14, 1, 2, 3, 4, 5, 6, 7, 9, 0, 8] (by decide) rfl) hS (lv_sub hl [2, 3, 4, 5, 6, 7, 1, 0] rfl)
                · have hk1 : 2 ≤ kk := by
                    rcases Nat.lt_or_ge kk 2 with q | q
                    · refine absurd ?_ c_10
                      rw [hx9, ← iI_0, iI_le (by unfold sm; omega) (by unfold sm; omega)]; omega
                    · exact q
                  obtain ⟨p9, hpp⟩ : ∃ p9, kk = p9 + 1 := ⟨kk - 1, by omega⟩
                  subst hpp
                  have h9 : x9 = nI p9 := by rw [hx9, nI_iI]; congr 1; omega
                  subst h9
                  refine lv_iload hx hb dX12_seeds_72 (lv_at hl 5 rfl) ?_
                  refine lv_ldcw hx hb hown (hts _ (gw kw_1091 rfl)) dX12_seeds_74 ?_
                  refine lv_imul hx hb dX12_seeds_77 ?_
                  refine lv_topi (fun x_34 e_34 => ?_)
                  refine lv_sipush (v := 12345) hx hb dX12_seeds_78 (by decide) ?_
                  refine lv_iadd hx hb dX12_seeds_81 ?_
                  refine lv_topi (fun x_35 e_35 => ?_)
                  refine lv_istore (lv' := [(5, Value.int x_35), (0, Value.ref g0), (1, Value.int (nI a)), (2, Value.int (nI nn)), (3, Value.int a3), (4, Value.int x_3), (6, Value.int x6), (7, Value.int (nI k)), (8, Value.int (nI z8)), (9, Value.int (nI p9))]) hx hb dX12_seeds_82 hl (by decide) rfl (fun ls hl => ?_)
                  have h9 : x_35 = lcg y5 := by rw [e_35, e_34]; rfl
                  subst h9
                  refine lv_iload hx hb dX12_seeds_84 (lv_at hl 0 rfl) ?_
                  refine lv_ldcw hx hb hown (hts _ (gw kw_1092 rfl)) dX12_seeds_86 ?_
                  refine lv_iand hx hb dX12_seeds_89 ?_
                  refine lv_topi (fun x_36 e_36 => ?_)
                  obtain ⟨mm, hmm, hme⟩ := dr_and (lcg y5)
                  have h9 : x_36 = nI mm := by rw [e_36]; exact hme
                  subst h9
                  refine lv_ldcw hx hb hown (hts _ (gw kw_1093 rfl)) dX12_seeds_90 ?_
                  refine lv_idiv hx hb dX12_seeds_93 (by decide) ?_
                  refine lv_topi (fun x_37 e_37 => ?_)
                  have h9 : x_37 = nI (mm / 65536) := by rw [e_37]; exact pk_div (d := 65536) (by omega) (by omega) (by omega)
                  subst h9
                  refine lv_iload hx hb dX12_seeds_94 (lv_at hl 9 rfl) ?_
                  refine lv_iconst (v := 1) hx hb dX12_seeds_96 (by decide) ?_
                  refine lv_iadd hx hb dX12_seeds_97 ?_
                  refine lv_topi (fun x_38 e_38 => ?_)
                  have h9 : x_38 = nI (p9 + 1) := by rw [e_38, nI_1]
                  subst h9
                  refine lv_irem hx hb dX12_seeds_98 (fun q => by have := (nI_eq (a := p9 + 1) (b := 0) (by omega) (by omega)).mp q; omega) ?_
                  refine lv_topi (fun x_39 e_39 => ?_)
                  have hdq : dq (lcg y5) p9 = mm / 65536 % (p9 + 1) := by unfold dq; rw [hme, nI_clamp (by omega)]
                  have h9 : x_39 = nI (dq (lcg y5) p9) := by rw [e_39, hdq]; exact pk_mod (a := mm / 65536) (d := p9 + 1) (Nat.lt_of_le_of_lt (Nat.div_le_self _ _) hmm) (by omega) (by omega)
                  subst h9
                  have hdr := dq_lt (z := lcg y5) (k := p9)
                  refine lv_istore (lv' := [(10, Value.int (nI (dq (lcg y5) p9))), (5, Value.int (lcg y5)), (0, Value.ref g0), (1, Value.int (nI a)), (2, Value.int (nI nn)), (3, Value.int a3), (4, Value.int x_3), (6, Value.int x6), (7, Value.int (nI k)), (8, Value.int (nI z8)), (9, Value.int (nI p9))]) hx hb dX12_seeds_99 hl (by decide) rfl (fun ls hl => ?_)
                  refine lv_iload hx hb dX12_seeds_101 (lv_at hl 10 rfl) ?_
                  refine lv_iload hx hb dX12_seeds_103 (lv_at hl 0 rfl) ?_
                  refine lv_icmp_eq (tgt := 116) hx hb dX12_seeds_105 (by decide) (fun c_40 => ?_) (fun c_40 => ?_)
                  · refine lv_iload hx hb dX12_seeds_116 (lv_at hl 9 rfl) ?_
                    refine lv_iload hx hb dX12_seeds_118 (lv_at hl 10 rfl) ?_
                    refine lv_icmp_ne (tgt := 128) hx hb dX12_seeds_120 (by decide) (fun c_41 => ?_) (fun c_41 => ?_)
                    · refine lv_iload hx hb dX12_seeds_128 (lv_at hl 9 rfl) ?_
                      refine lv_iload hx hb dX12_seeds_130 (lv_at hl 0 rfl) ?_
                      refine lv_icmp_ne (tgt := 140) hx hb dX12_seeds_132 (by decide) (fun c_42 => ?_) (fun c_42 => ?_)
                      · refine lv_iload hx hb dX12_seeds_140 (lv_at hl 9 rfl) ?_
                        refine lv_istore (lv' := [(8, Value.int (nI z8)), (10, Value.int (nI (dq (lcg y5) p9))), (5, Value.int (lcg y5)), (0, Value.ref g0), (1, Value.int (nI a)), (2, Value.int (nI nn)), (3, Value.int a3), (4, Value.int x_3), (6, Value.int x6), (7, Value.int (nI k)), (9, Value.int (nI p9))]) hx hb dX12_seeds_142 hl (by decide) rfl (fun ls hl => ?_)
                        have hl : lv_has ls 11 [(8, Value.int (nI (swq p9 (dq (lcg y5) p9) z8))), (10, Value.int (nI (dq (lcg y5) p9))), (5, Value.int (lcg y5)), (0, Value.ref g0), (1, Value.int (nI a)), (2, Value.int (nI nn)), (3, Value.int a3), (4, Value.int x_3), (6, Value.int x6), (7, Value.int (nI k)), (9, Value.int (nI p9))] := by rw [← (show nI z8 = nI (swq p9 (dq (lcg y5) p9) z8) from by rw [swq_n (fun e9 => c_41 (by rw [e9])) (fun e9 => c_42 (by rw [e9]))])]; exact hl
                        have hz82 : swq p9 (dq (lcg y5) p9) z8 < n ∧ (fun q => s9 (swq p9 (dq (lcg y5) p9) q)) (swq p9 (dq (lcg y5) p9) z8) = a := ⟨swq_lt (by omega) (by omega) hz8.1, by show s9 (swq p9 (dq (lcg y5) p9) (swq p9 (dq (lcg y5) p9) z8)) = a; rw [swq_sw]; exact hz8.2⟩
                        have hsd2 : sdr (n - 1) x5 (fun q => q) = sdr (p9 - 1) (lcg y5) (fun q => s9 (swq p9 (dq (lcg y5) p9) q)) := hsd.trans (sdr_s (k := p9) (by omega))
                        have hpr2 := PRM_sw hpr (a := p9) (b := (dq (lcg y5) p9)) (by omega) (by omega)
                        have hc0 : ∀ q, q < n → kd q = kfc ((fun q => s9 (swq p9 (dq (lcg y5) p9) q)) q) := fun q hq => by show _ = kfc (s9 (swq p9 (dq (lcg y5) p9) q)); rw [← (nI_eq (a := p9) (b := (dq (lcg y5) p9)) (by omega) (by omega)).mp c_40, swq_sm]; exact hs0 q hq
                        have hc1 : ∀ q, q < n → fd q = ffc ((fun q => s9 (swq p9 (dq (lcg y5) p9) q)) q) := fun q hq => by show _ = ffc (s9 (swq p9 (dq (lcg y5) p9) q)); rw [← (nI_eq (a := p9) (b := (dq (lcg y5) p9)) (by omega) (by omega)).mp c_40, swq_sm]; exact hs1 q hq
                        have hc2 : ∀ q, q < n → wd q = wfc ((fun q => s9 (swq p9 (dq (lcg y5) p9) q)) q) := fun q hq => by show _ = wfc (s9 (swq p9 (dq (lcg y5) p9) q)); rw [← (nI_eq (a := p9) (b := (dq (lcg y5) p9)) (by omega) (by omega)).mp c_40, swq_sm]; exact hs2 q hq
                        obtain ⟨x_43, e_43⟩ : ∃ y : Int32, y = (nI p9) + (-1) := ⟨_, rfl⟩
                        refine lv_iinc (v := x_43) (lv' := [(9, Value.int x_43), (8, Value.int (nI (swq p9 (dq (lcg y5) p9) z8))), (10, Value.int (nI (dq (lcg y5) p9))), (5, Value.int (lcg y5)), (0, Value.ref g0), (1, Value.int (nI a)), (2, Value.int (nI nn)), (3, Value.int a3), (4, Value.int x_3), (6, Value.int x6), (7, Value.int (nI k))]) hx hb dX12_seeds_144 hl (k := 10) rfl (by rw [e_43]; rfl) (by decide) rfl (fun ls hl => ?_)
                        refine lv_goto (tgt := 67) hx hb dX12_seeds_147 (by decide) ?_
                        exact ih_67 p9 (lcg y5) (swq p9 (dq (lcg y5) p9) z8) x_43 (fun q => s9 (swq p9 (dq (lcg y5) p9) q)) kd fd wd (by omega) (by omega) (by rw [e_43, nI_iI, show (-1 : Int32) = iI (-1) from rfl, iI_add]; rfl) (hz82) (hsd2) (hpr2) (hc0) (hc1) (hc2) _ _ _ (hP.sub [0, 1, 2, 3, 4, 5, 6, 7, 8, 9, 10, 11, 12, 13, 14] rfl) (hD.sub [0, 1, 2, 3, 4, 5, 6, 7, 8, 9, 10, 11, 12, 13, 14] (by decide) rfl) hS (lv_sub hl [4, 5, 6, 7, 8, 3, 9, 10, 1, 0] rfl)
                      · refine lv_iload hx hb dX12_seeds_135 (lv_at hl 10 rfl) ?_
                        refine lv_goto (tgt := 142) hx hb dX12_seeds_137 (by decide) ?_
                        refine lv_istore (lv' := [(8, Value.int (nI p9)), (10, Value.int (nI (dq (lcg y5) p9))), (5, Value.int (lcg y5)), (0, Value.ref g0), (1, Value.int (nI a)), (2, Value.int (nI nn)), (3, Value.int a3), (4, Value.int x_3), (6, Value.int x6), (7, Value.int (nI k)), (9, Value.int (nI p9))]) hx hb dX12_seeds_142 hl (by decide) rfl (fun ls hl => ?_)
                        have hl : lv_has ls 11 [(8, Value.int (nI (swq p9 (dq (lcg y5) p9) z8))), (10, Value.int (nI (dq (lcg y5) p9))), (5, Value.int (lcg y5)), (0, Value.ref g0), (1, Value.int (nI a)), (2, Value.int (nI nn)), (3, Value.int a3), (4, Value.int x_3), (6, Value.int x6), (7, Value.int (nI k)), (9, Value.int (nI p9))] := by rw [← (show nI p9 = nI (swq p9 (dq (lcg y5) p9) z8) from by rw [show z8 = (dq (lcg y5) p9) from (nI_eq (by omega) (by omega)).mp c_42, swq_b])]; exact hl
                        have hz82 : swq p9 (dq (lcg y5) p9) z8 < n ∧ (fun q => s9 (swq p9 (dq (lcg y5) p9) q)) (swq p9 (dq (lcg y5) p9) z8) = a := ⟨swq_lt (by omega) (by omega) hz8.1, by show s9 (swq p9 (dq (lcg y5) p9) (swq p9 (dq (lcg y5) p9) z8)) = a; rw [swq_sw]; exact hz8.2⟩
                        have hsd2 : sdr (n - 1) x5 (fun q => q) = sdr (p9 - 1) (lcg y5) (fun q => s9 (swq p9 (dq (lcg y5) p9) q)) := hsd.trans (sdr_s (k := p9) (by omega))
                        have hpr2 := PRM_sw hpr (a := p9) (b := (dq (lcg y5) p9)) (by omega) (by omega)
                        have hc0 : ∀ q, q < n → kd q = kfc ((fun q => s9 (swq p9 (dq (lcg y5) p9) q)) q) := fun q hq => by show _ = kfc (s9 (swq p9 (dq (lcg y5) p9) q)); rw [← (nI_eq (a := p9) (b := (dq (lcg y5) p9)) (by omega) (by omega)).mp c_40, swq_sm]; exact hs0 q hq
                        have hc1 : ∀ q, q < n → fd q = ffc ((fun q => s9 (swq p9 (dq (lcg y5) p9) q)) q) := fun q hq => by show _ = ffc (s9 (swq p9 (dq (lcg y5) p9) q)); rw [← (nI_eq (a := p9) (b := (dq (lcg y5) p9)) (by omega) (by omega)).mp c_40, swq_sm]; exact hs1 q hq
                        have hc2 : ∀ q, q < n → wd q = wfc ((fun q => s9 (swq p9 (dq (lcg y5) p9) q)) q) := fun q hq => by show _ = wfc (s9 (swq p9 (dq (lcg y5) p9) q)); rw [← (nI_eq (a := p9) (b := (dq (lcg y5) p9)) (by omega) (by omega)).mp c_40, swq_sm]; exact hs2 q hq
                        obtain ⟨x_44, e_44⟩ : ∃ y : Int32, y = (nI p9) + (-1) := ⟨_, rfl⟩
                        refine lv_iinc (v := x_44) (lv' := [(9, Value.int x_44), (8, Value.int (nI (swq p9 (dq (lcg y5) p9) z8))), (10, Value.int (nI (dq (lcg y5) p9))), (5, Value.int (lcg y5)), (0, Value.ref g0), (1, Value.int (nI a)), (2, Value.int (nI nn)), (3, Value.int a3), (4, Value.int x_3), (6, Value.int x6), (7, Value.int (nI k))]) hx hb dX12_seeds_144 hl (k := 10) rfl (by rw [e_44]; rfl) (by decide) rfl (fun ls hl => ?_)
                        refine lv_goto (tgt := 67) hx hb dX12_seeds_147 (by decide) ?_
                        exact ih_67 p9 (lcg y5) (swq p9 (dq (lcg y5) p9) z8) x_44 (fun q => s9 (swq p9 (dq (lcg y5) p9) q)) kd fd wd (by omega) (by omega) (by rw [e_44, nI_iI, show (-1 : Int32) = iI (-1) from rfl, iI_add]; rfl) (hz82) (hsd2) (hpr2) (hc0) (hc1) (hc2) _ _ _ (hP.sub [0, 1, 2, 3, 4, 5, 6, 7, 8, 9, 10, 11, 12, 13, 14] rfl) (hD.sub [0, 1, 2, 3, 4, 5, 6, 7, 8, 9, 10, 11, 12, 13, 14] (by decide) rfl) hS (lv_sub hl [4, 5, 6, 7, 8, 3, 9, 10, 1, 0] rfl)
                    · refine lv_iload hx hb dX12_seeds_123 (lv_at hl 0 rfl) ?_
                      refine lv_goto (tgt := 142) hx hb dX12_seeds_125 (by decide) ?_
                      refine lv_istore (lv' := [(8, Value.int (nI (dq (lcg y5) p9))), (10, Value.int (nI (dq (lcg y5) p9))), (5, Value.int (lcg y5)), (0, Value.ref g0), (1, Value.int (nI a)), (2, Value.int (nI nn)), (3, Value.int a3), (4, Value.int x_3), (6, Value.int x6), (7, Value.int (nI k)), (9, Value.int (nI p9))]) hx hb dX12_seeds_142 hl (by decide) rfl (fun ls hl => ?_)
                      have hl : lv_has ls 11 [(8, Value.int (nI (swq p9 (dq (lcg y5) p9) z8))), (10, Value.int (nI (dq (lcg y5) p9))), (5, Value.int (lcg y5)), (0, Value.ref g0), (1, Value.int (nI a)), (2, Value.int (nI nn)), (3, Value.int a3), (4, Value.int x_3), (6, Value.int x6), (7, Value.int (nI k)), (9, Value.int (nI p9))] := by rw [← (show nI (dq (lcg y5) p9) = nI (swq p9 (dq (lcg y5) p9) z8) from by rw [show z8 = p9 from (nI_eq (by omega) (by omega)).mp c_41, swq_a])]; exact hl
                      have hz82 : swq p9 (dq (lcg y5) p9) z8 < n ∧ (fun q => s9 (swq p9 (dq (lcg y5) p9) q)) (swq p9 (dq (lcg y5) p9) z8) = a := ⟨swq_lt (by omega) (by omega) hz8.1, by show s9 (swq p9 (dq (lcg y5) p9) (swq p9 (dq (lcg y5) p9) z8)) = a; rw [swq_sw]; exact hz8.2⟩
                      have hsd2 : sdr (n - 1) x5 (fun q => q) = sdr (p9 - 1) (lcg y5) (fun q => s9 (swq p9 (dq (lcg y5) p9) q)) := hsd.trans (sdr_s (k := p9) (by omega))
                      have hpr2 := PRM_sw hpr (a := p9) (b := (dq (lcg y5) p9)) (by omega) (by omega)
                      have hc0 : ∀ q, q < n → kd q = kfc ((fun q => s9 (swq p9 (dq (lcg y5) p9) q)) q) := fun q hq => by show _ = kfc (s9 (swq p9 (dq (lcg y5) p9) q)); rw [← (nI_eq (a := p9) (b := (dq (lcg y5) p9)) (by omega) (by omega)).mp c_40, swq_sm]; exact hs0 q hq
                      have hc1 : ∀ q, q < n → fd q = ffc ((fun q => s9 (swq p9 (dq (lcg y5) p9) q)) q) := fun q hq => by show _ = ffc (s9 (swq p9 (dq (lcg y5) p9) q)); rw [← (nI_eq (a := p9) (b := (dq (lcg y5) p9)) (by omega) (by omega)).mp c_40, swq_sm]; exact hs1 q hq
                      have hc2 : ∀ q, q < n → wd q = wfc ((fun q => s9 (swq p9 (dq (lcg y5) p9) q)) q) := fun q hq => by show _ = wfc (s9 (swq p9 (dq (lcg y5) p9) q)); rw [← (nI_eq (a := p9) (b := (dq (lcg y5) p9)) (by omega) (by omega)).mp c_40, swq_sm]; exact hs2 q hq
                      obtain ⟨x_45, e_45⟩ : ∃ y : Int32, y = (nI p9) + (-1) := ⟨_, rfl⟩
                      refine lv_iinc (v := x_45) (lv' := [(9, Value.int x_45), (8, Value.int (nI (swq p9 (dq (lcg y5) p9) z8))), (10, Value.int (nI (dq (lcg y5) p9))), (5, Value.int (lcg y5)), (0, Value.ref g0), (1, Value.int (nI a)), (2, Value.int (nI nn)), (3, Value.int a3), (4, Value.int x_3), (6, Value.int x6), (7, Value.int (nI k))]) hx hb dX12_seeds_144 hl (k := 10) rfl (by rw [e_45]; rfl) (by decide) rfl (fun ls hl => ?_)
                      refine lv_goto (tgt := 67) hx hb dX12_seeds_147 (by decide) ?_
                      exact ih_67 p9 (lcg y5) (swq p9 (dq (lcg y5) p9) z8) x_45 (fun q => s9 (swq p9 (dq (lcg y5) p9) q)) kd fd wd (by omega) (by omega) (by rw [e_45, nI_iI, show (-1 : Int32) = iI (-1) from rfl, iI_add]; rfl) (hz82) (hsd2) (hpr2) (hc0) (hc1) (hc2) _ _ _ (hP.sub [0, 1, 2, 3, 4, 5, 6, 7, 8, 9, 10, 11, 12, 13, 14] rfl) (hD.sub [0, 1, 2, 3, 4, 5, 6, 7, 8, 9, 10, 11, 12, 13, 14] (by decide) rfl) hS (lv_sub hl [4, 5, 6, 7, 8, 3, 9, 10, 1, 0] rfl)
                  · refine lv_aload_n hx hb dX12_seeds_108 rfl (lv_at hl 2 rfl) ?_
                    refine lv_iload hx hb dX12_seeds_109 (lv_at hl 10 rfl) ?_
                    refine lv_iload hx hb dX12_seeds_111 (lv_at hl 0 rfl) ?_
                    have hpd9 := pdf_N (cx := [oX12 g0 m_refused m_kind m_figure m_weight m_got m_setting (nI n) (nI sn) dn m_tape m_letter m_letterAt m_told tp mat stm m_kept him 1 u_7 m_price m_offer m_gets m_yes m_buys m_ends m_carried m_row rm m_keptRow m_likeGets m_likePrice m_ahead, cI aC m_kind 9 kd, cI aC m_figure 9 fd, cI aC m_weight 9 wd]) hP hD hS hA [8, 10, 11, 12] (by decide) rfl
                    have hPc := hpd9.1
                    have hDc := hpd9.2.1
                    have hFc := hpd9.2.2
                    clear hpd9
                    refine va_callv (va_runV (As := [Value.int (nI p9), Value.int (nI (dq (lcg y5) p9))]) (rest := []) ⟨hx, hb, hml, hown, hts⟩ (c_X12_swaps l dC dI aC H.size g0 m_refused m_kind m_figure m_weight m_got m_setting m_tape m_letter m_letterAt m_told m_kept m_price m_offer m_gets m_yes m_buys m_ends m_carried m_row m_keptRow m_likeGets m_likePrice m_ahead (nI n) (nI sn) dn tp mat stm him 1 u_7 rm kd fd wd p9 (dq (lcg y5) p9) (by omega)) ⟨(callB_of 2 hts (gG kw_1058) rfl rfl rfl (hts _ (gw kw_13 rfl)) (hts _ (gw kw_1055 rfl)) hd_X12_swaps ⟨Nat.le_of_ble_eq_true rfl, Nat.le_of_ble_eq_true rfl⟩), (hts _ (gw kw_1057 rfl)), (hts _ (gw ks_66 rfl))⟩ ⟨fb_std, va_recv (q := (RX12, TX12, 33)) hK hPc (ci := 12) (q0 := 0) rfl rfl, pre_std hPc hK hDc hN⟩ rfl rfl hl.1 rfl (lv_room (Nat.le_of_ble_eq_true rfl)) dX12_seeds_113 ⟨Nat.le_of_ble_eq_true rfl, Nat.le_of_ble_eq_true rfl⟩) hS (fun q _ h => hFc q h) hFc (fun u9 t9 H1 locs ht hvm hw_46 hB hz1 hk1 hS => ?_)
                    obtain ⟨u_47, u_48, u_49⟩ := u9
                    obtain ⟨hP1, hK1, hD1⟩ := hB
                    rw [ht] at hP1
                    clear hK1
                    try dsimp only at hw_46
                    have hpd9 : PDx (dC, dI) classes A H1 [cI aC m_price 81 pfc, cI aC m_offer 81 ofc, cI aC m_gets 90 gfc, cI aC m_yes 9 yfc, cI aC m_buys 9 bfc, cI aC m_ends 9 efc, cI aC m_carried 9 cfc, cI aC m_refused 7 mr, cI aC m_kept 100 u_8, cI aC m_got 8 qfc, cI aC m_setting 5 stfc, oX12 g0 m_refused m_kind m_figure m_weight m_got m_setting (nI n) (nI sn) dn m_tape m_letter m_letterAt m_told tp mat stm m_kept him 1 u_7 m_price m_offer m_gets m_yes m_buys m_ends m_carried m_row rm m_keptRow m_likeGets m_likePrice m_ahead, cI aC m_kind 9 u_47, cI aC m_figure 9 u_48, cI aC m_weight 9 u_49] := jn_N (wr := [cI aC m_price 81 pfc, cI aC m_offer 81 ofc, cI aC m_gets 90 gfc, cI aC m_yes 9 yfc, cI aC m_buys 9 bfc, cI aC m_ends 9 efc, cI aC m_carried 9 cfc, cI aC m_refused 7 mr, cI aC m_kept 100 u_8, cI aC m_got 8 qfc, cI aC m_setting 5 stfc]) hFc hk1 hP1 hD1 hP hD [8, 10, 11, 12] [0, 1, 2, 3, 4, 5, 6, 7, 9, 13, 14] rfl rfl (by decide) (by decide)
                    have hP := hpd9.1
                    have hD := hpd9.2
                    clear hpd9
                    generalize H1 = H at hP hS ⊢
                    clear hPc hDc hFc hz1 hk1 hP1 hD1 ht hvm
                    have hsq := hw_46
                    refine lv_iload hx hb dX12_seeds_116 (lv_at hl 9 rfl) ?_
                    refine lv_iload hx hb dX12_seeds_118 (lv_at hl 10 rfl) ?_
                    refine lv_icmp_ne (tgt := 128) hx hb dX12_seeds_120 (by decide) (fun c_50 => ?_) (fun c_50 => ?_)
                    · refine lv_iload hx hb dX12_seeds_128 (lv_at hl 9 rfl) ?_
                      refine lv_iload hx hb dX12_seeds_130 (lv_at hl 0 rfl) ?_
                      refine lv_icmp_ne (tgt := 140) hx hb dX12_seeds_132 (by decide) (fun c_51 => ?_) (fun c_51 => ?_)
                      · refine lv_iload hx hb dX12_seeds_140 (lv_at hl 9 rfl) ?_
                        refine lv_istore (lv' := [(8, Value.int (nI z8)), (10, Value.int (nI (dq (lcg y5) p9))), (5, Value.int (lcg y5)), (0, Value.ref g0), (1, Value.int (nI a)), (2, Value.int (nI nn)), (3, Value.int a3), (4, Value.int x_3), (6, Value.int x6), (7, Value.int (nI k)), (9, Value.int (nI p9))]) hx hb dX12_seeds_142 hl (by decide) rfl (fun ls hl => ?_)
                        have hl : lv_has ls 11 [(8, Value.int (nI (swq p9 (dq (lcg y5) p9) z8))), (10, Value.int (nI (dq (lcg y5) p9))), (5, Value.int (lcg y5)), (0, Value.ref g0), (1, Value.int (nI a)), (2, Value.int (nI nn)), (3, Value.int a3), (4, Value.int x_3), (6, Value.int x6), (7, Value.int (nI k)), (9, Value.int (nI p9))] := by rw [← (show nI z8 = nI (swq p9 (dq (lcg y5) p9) z8) from by rw [swq_n (fun e9 => c_50 (by rw [e9])) (fun e9 => c_51 (by rw [e9]))])]; exact hl
                        have hz82 : swq p9 (dq (lcg y5) p9) z8 < n ∧ (fun q => s9 (swq p9 (dq (lcg y5) p9) q)) (swq p9 (dq (lcg y5) p9) z8) = a := ⟨swq_lt (by omega) (by omega) hz8.1, by show s9 (swq p9 (dq (lcg y5) p9) (swq p9 (dq (lcg y5) p9) z8)) = a; rw [swq_sw]; exact hz8.2⟩
                        have hsd2 : sdr (n - 1) x5 (fun q => q) = sdr (p9 - 1) (lcg y5) (fun q => s9 (swq p9 (dq (lcg y5) p9) q)) := hsd.trans (sdr_s (k := p9) (by omega))
                        have hpr2 := PRM_sw hpr (a := p9) (b := (dq (lcg y5) p9)) (by omega) (by omega)
                        have hc0 : ∀ q, q < n → u_47 q = kfc ((fun q => s9 (swq p9 (dq (lcg y5) p9) q)) q) := fun q hq => by rw [hsq.1 q (by omega), hs0 _ (swq_lt (by omega) (by omega) hq)]
                        have hc1 : ∀ q, q < n → u_48 q = ffc ((fun q => s9 (swq p9 (dq (lcg y5) p9) q)) q) := fun q hq => by rw [hsq.2.1 q (by omega), hs1 _ (swq_lt (by omega) (by omega) hq)]
                        have hc2 : ∀ q, q < n → u_49 q = wfc ((fun q => s9 (swq p9 (dq (lcg y5) p9) q)) q) := fun q hq => by rw [hsq.2.2 q (by omega), hs2 _ (swq_lt (by omega) (by omega) hq)]
                        obtain ⟨x_52, e_52⟩ : ∃ y : Int32, y = (nI p9) + (-1) := ⟨_, rfl⟩
                        refine lv_iinc (v := x_52) (lv' := [(9, Value.int x_52), (8, Value.int (nI (swq p9 (dq (lcg y5) p9) z8))), (10, Value.int (nI (dq (lcg y5) p9))), (5, Value.int (lcg y5)), (0, Value.ref g0), (1, Value.int (nI a)), (2, Value.int (nI nn)), (3, Value.int a3), (4, Value.int x_3), (6, Value.int x6), (7, Value.int (nI k))]) hx hb dX12_seeds_144 hl (k := 10) rfl (by rw [e_52]; rfl) (by decide) rfl (fun ls hl => ?_)
                        refine lv_goto (tgt := 67) hx hb dX12_seeds_147 (by decide) ?_
                        exact ih_67 p9 (lcg y5) (swq p9 (dq (lcg y5) p9) z8) x_52 (fun q => s9 (swq p9 (dq (lcg y5) p9) q)) u_47 u_48 u_49 (by omega) (by omega) (by rw [e_52, nI_iI, show (-1 : Int32) = iI (-1) from rfl, iI_add]; rfl) (hz82) (hsd2) (hpr2) (hc0) (hc1) (hc2) _ _ _ (hP.sub [0, 1, 2, 3, 4, 5, 6, 7, 11, 8, 12, 13, 14, 9, 10] rfl) (hD.sub [0, 1, 2, 3, 4, 5, 6, 7, 11, 8, 12, 13, 14, 9, 10] (by decide) rfl) hS (lv_sub hl [4, 5, 6, 7, 8, 3, 9, 10, 1, 0] rfl)
                      · refine lv_iload hx hb dX12_seeds_135 (lv_at hl 10 rfl) ?_
                        refine lv_goto (tgt := 142) hx hb dX12_seeds_137 (by decide) ?_
                        refine lv_istore (lv' := [(8, Value.int (nI p9)), (10, Value.int (nI (dq (lcg y5) p9))), (5, Value.int (lcg y5)), (0, Value.ref g0), (1, Value.int (nI a)), (2, Value.int (nI nn)), (3, Value.int a3), (4, Value.int x_3), (6, Value.int x6), (7, Value.int (nI k)), (9, Value.int (nI p9))]) hx hb dX12_seeds_142 hl (by decide) rfl (fun ls hl => ?_)
                        have hl : lv_has ls 11 [(8, Value.int (nI (swq p9 (dq (lcg y5) p9) z8))), (10, Value.int (nI (dq (lcg y5) p9))), (5, Value.int (lcg y5)), (0, Value.ref g0), (1, Value.int (nI a)), (2, Value.int (nI nn)), (3, Value.int a3), (4, Value.int x_3), (6, Value.int x6), (7, Value.int (nI k)), (9, Value.int (nI p9))] := by rw [← (show nI p9 = nI (swq p9 (dq (lcg y5) p9) z8) from by rw [show z8 = (dq (lcg y5) p9) from (nI_eq (by omega) (by omega)).mp c_51, swq_b])]; exact hl
                        have hz82 : swq p9 (dq (lcg y5) p9) z8 < n ∧ (fun q => s9 (swq p9 (dq (lcg y5) p9) q)) (swq p9 (dq (lcg y5) p9) z8) = a := ⟨swq_lt (by omega) (by omega) hz8.1, by show s9 (swq p9 (dq (lcg y5) p9) (swq p9 (dq (lcg y5) p9) z8)) = a; rw [swq_sw]; exact hz8.2⟩
                        have hsd2 : sdr (n - 1) x5 (fun q => q) = sdr (p9 - 1) (lcg y5) (fun q => s9 (swq p9 (dq (lcg y5) p9) q)) := hsd.trans (sdr_s (k := p9) (by omega))
                        have hpr2 := PRM_sw hpr (a := p9) (b := (dq (lcg y5) p9)) (by omega) (by omega)
                        have hc0 : ∀ q, q < n → u_47 q = kfc ((fun q => s9 (swq p9 (dq (lcg y5) p9) q)) q) := fun q hq => by rw [hsq.1 q (by omega), hs0 _ (swq_lt (by omega) (by omega) hq)]
                        have hc1 : ∀ q, q < n → u_48 q = ffc ((fun q => s9 (swq p9 (dq (lcg y5) p9) q)) q) := fun q hq => by rw [hsq.2.1 q (by omega), hs1 _ (swq_lt (by omega) (by omega) hq)]
                        have hc2 : ∀ q, q < n → u_49 q = wfc ((fun q => s9 (swq p9 (dq (lcg y5) p9) q)) q) := fun q hq => by rw [hsq.2.2 q (by omega), hs2 _ (swq_lt (by omega) (by omega) hq)]
                        obtain ⟨x_53, e_53⟩ : ∃ y : Int32, y = (nI p9) + (-1) := ⟨_, rfl⟩
                        refine lv_iinc (v := x_53) (lv' := [(9, Value.int x_53), (8, Value.int (nI (swq p9 (dq (lcg y5) p9) z8))), (10, Value.int (nI (dq (lcg y5) p9))), (5, Value.int (lcg y5)), (0, Value.ref g0), (1, Value.int (nI a)), (2, Value.int (nI nn)), (3, Value.int a3), (4, Value.int x_3), (6, Value.int x6), (7, Value.int (nI k))]) hx hb dX12_seeds_144 hl (k := 10) rfl (by rw [e_53]; rfl) (by decide) rfl (fun ls hl => ?_)
                        refine lv_goto (tgt := 67) hx hb dX12_seeds_147 (by decide) ?_
                        exact ih_67 p9 (lcg y5) (swq p9 (dq (lcg y5) p9) z8) x_53 (fun q => s9 (swq p9 (dq (lcg y5) p9) q)) u_47 u_48 u_49 (by omega) (by omega) (by rw [e_53, nI_iI, show (-1 : Int32) = iI (-1) from rfl, iI_add]; rfl) (hz82) (hsd2) (hpr2) (hc0) (hc1) (hc2) _ _ _ (hP.sub [0, 1, 2, 3, 4, 5, 6, 7, 11, 8, 12, 13, 14, 9, 10] rfl) (hD.sub [0, 1, 2, 3, 4, 5, 6, 7, 11, 8, 12, 13, 14, 9, 10] (by decide) rfl) hS (lv_sub hl [4, 5, 6, 7, 8, 3, 9, 10, 1, 0] rfl)
                    · refine lv_iload hx hb dX12_seeds_123 (lv_at hl 0 rfl) ?_
                      refine lv_goto (tgt := 142) hx hb dX12_seeds_125 (by decide) ?_
                      refine lv_istore (lv' := [(8, Value.int (nI (dq (lcg y5) p9))), (10, Value.int (nI (dq (lcg y5) p9))), (5, Value.int (lcg y5)), (0, Value.ref g0), (1, Value.int (nI a)), (2, Value.int (nI nn)), (3, Value.int a3), (4, Value.int x_3), (6, Value.int x6), (7, Value.int (nI k)), (9, Value.int (nI p9))]) hx hb dX12_seeds_142 hl (by decide) rfl (fun ls hl => ?_)
                      have hl : lv_has ls 11 [(8, Value.int (nI (swq p9 (dq (lcg y5) p9) z8))), (10, Value.int (nI (dq (lcg y5) p9))), (5, Value.int (lcg y5)), (0, Value.ref g0), (1, Value.int (nI a)), (2, Value.int (nI nn)), (3, Value.int a3), (4, Value.int x_3), (6, Value.int x6), (7, Value.int (nI k)), (9, Value.int (nI p9))] := by rw [← (show nI (dq (lcg y5) p9) = nI (swq p9 (dq (lcg y5) p9) z8) from by rw [show z8 = p9 from (nI_eq (by omega) (by omega)).mp c_50, swq_a])]; exact hl
                      have hz82 : swq p9 (dq (lcg y5) p9) z8 < n ∧ (fun q => s9 (swq p9 (dq (lcg y5) p9) q)) (swq p9 (dq (lcg y5) p9) z8) = a := ⟨swq_lt (by omega) (by omega) hz8.1, by show s9 (swq p9 (dq (lcg y5) p9) (swq p9 (dq (lcg y5) p9) z8)) = a; rw [swq_sw]; exact hz8.2⟩
                      have hsd2 : sdr (n - 1) x5 (fun q => q) = sdr (p9 - 1) (lcg y5) (fun q => s9 (swq p9 (dq (lcg y5) p9) q)) := hsd.trans (sdr_s (k := p9) (by omega))
                      have hpr2 := PRM_sw hpr (a := p9) (b := (dq (lcg y5) p9)) (by omega) (by omega)
                      have hc0 : ∀ q, q < n → u_47 q = kfc ((fun q => s9 (swq p9 (dq (lcg y5) p9) q)) q) := fun q hq => by rw [hsq.1 q (by omega), hs0 _ (swq_lt (by omega) (by omega) hq)]
                      have hc1 : ∀ q, q < n → u_48 q = ffc ((fun q => s9 (swq p9 (dq (lcg y5) p9) q)) q) := fun q hq => by rw [hsq.2.1 q (by omega), hs1 _ (swq_lt (by omega) (by omega) hq)]
                      have hc2 : ∀ q, q < n → u_49 q = wfc ((fun q => s9 (swq p9 (dq (lcg y5) p9) q)) q) := fun q hq => by rw [hsq.2.2 q (by omega), hs2 _ (swq_lt (by omega) (by omega) hq)]
                      obtain ⟨x_54, e_54⟩ : ∃ y : Int32, y = (nI p9) + (-1) := ⟨_, rfl⟩
                      refine lv_iinc (v := x_54) (lv' := [(9, Value.int x_54), (8, Value.int (nI (swq p9 (dq (lcg y5) p9) z8))), (10, Value.int (nI (dq (lcg y5) p9))), (5, Value.int (lcg y5)), (0, Value.ref g0), (1, Value.int (nI a)), (2, Value.int (nI nn)), (3, Value.int a3), (4, Value.int x_3), (6, Value.int x6), (7, Value.int (nI k))]) hx hb dX12_seeds_144 hl (k := 10) rfl (by rw [e_54]; rfl) (by decide) rfl (fun ls hl => ?_)
                      refine lv_goto (tgt := 67) hx hb dX12_seeds_147 (by decide) ?_
                      exact ih_67 p9 (lcg y5) (swq p9 (dq (lcg y5) p9) z8) x_54 (fun q => s9 (swq p9 (dq (lcg y5) p9) q)) u_47 u_48 u_49 (by omega) (by omega) (by rw [e_54, nI_iI, show (-1 : Int32) = iI (-1) from rfl, iI_add]; rfl) (hz82) (hsd2) (hpr2) (hc0) (hc1) (hc2) _ _ _ (hP.sub [0, 1, 2, 3, 4, 5, 6, 7, 11, 8, 12, 13, 14, 9, 10] rfl) (hD.sub [0, 1, 2, 3, 4, 5, 6, 7, 11, 8, 12, 13, 14, 9, 10] (by decide) rfl) hS (lv_sub hl [4, 5, 6, 7, 8, 3, 9, 10, 1, 0] rfl)
            exact lp_67 (n + 1) n x5 a x_9 (fun q => q) kfc ffc wfc (Nat.lt_succ_self _) (Nat.le_refl _) (by rw [e_9, nI_iI, ← iI_1, iI_sub]) (⟨ha8, rfl⟩) (rfl) (PRM_id) (fun q _ => rfl) (fun q _ => rfl) (fun q _ => rfl) _ _ _ (hP.sub [0, 1, 2, 3, 4, 5, 6, 7, 8, 9, 10, 11, 12, 13, 14] rfl) (hD.sub [0, 1, 2, 3, 4, 5, 6, 7, 8, 9, 10, 11, 12, 13, 14] (by decide) rfl) hS (lv_sub hl [2, 3, 4, 5, 6, 7, 8, 9, 1, 0] rfl)
      exact lp_44 ((nn - 0) + 1) 0 a3 0 ki crs kf ff wf qf stf pf of gf yf bf ef cf kp (Nat.lt_succ_self _) (by omega) (⟨rfl, rfl⟩) (RS5_r) (fun q _ => rfl) _ _ _ (hP.sub [0, 1, 2, 3, 4, 5, 6, 7, 8, 9, 10, 11, 12, 13, 14] rfl) (hD.sub [0, 1, 2, 3, 4, 5, 6, 7, 8, 9, 10, 11, 12, 13, 14] (by decide) rfl) hS (lv_sub hl [4, 5, 6, 7, 3, 2, 1, 0] rfl)
    · refine lv_aload_n hx hb dX12_seeds_28 rfl (lv_at hl 1 rfl) ?_
      refine lv_iload hx hb dX12_seeds_29 (lv_at hl 0 rfl) ?_
      have hpd9 := pdf_N (cx := [oX12 g0 m_refused m_kind m_figure m_weight m_got m_setting (nI n) (nI sn) dn m_tape m_letter m_letterAt m_told tp mat stm m_kept him ki crs m_price m_offer m_gets m_yes m_buys m_ends m_carried m_row rm m_keptRow m_likeGets m_likePrice m_ahead, cI aC m_refused 7 mr]) hP hD hS hA [14, 13] (by decide) rfl
      have hPc := hpd9.1
      have hDc := hpd9.2.1
      have hFc := hpd9.2.2
      clear hpd9
      refine va_calli (va_runV (As := [Value.int x_3]) (rest := []) ⟨hx, hb, hml, hown, hts⟩ (c_X12_no l dC dI aC H.size g0 m_refused m_kind m_figure m_weight m_got m_setting m_tape m_letter m_letterAt m_told m_kept m_price m_offer m_gets m_yes m_buys m_ends m_carried m_row m_keptRow m_likeGets m_likePrice m_ahead (nI n) (nI sn) dn tp mat stm him ki crs rm x_3 ((-x_3 : Int32).toNatClampNeg) mr (rfl) (by rcases bnd_n hz_18 c_4 with ⟨q1, q2⟩ | ⟨q1, q2, q3⟩ <;> first | (rw [q2]; unfold vp_in; decide) | (rw [q3]; unfold vp_in; decide))) ⟨(callB_of 1 hts (gG kw_827) rfl rfl rfl (hts _ (gw kw_13 rfl)) (hts _ (gw kw_824 rfl)) hd_X12_no ⟨Nat.le_of_ble_eq_true rfl, Nat.le_of_ble_eq_true rfl⟩), (hts _ (gw kw_826 rfl)), (hts _ (gw ks_35 rfl))⟩ ⟨fb_std, va_recv (q := (RX12, TX12, 33)) hK hPc (ci := 12) (q0 := 0) rfl rfl, pre_std hPc hK hDc hN⟩ rfl rfl hl.1 rfl (lv_room (Nat.le_of_ble_eq_true rfl)) dX12_seeds_31 ⟨Nat.le_of_ble_eq_true rfl, Nat.le_of_ble_eq_true rfl⟩) hS (fun q _ h => hFc q h) hFc (fun x_55 u9 t9 H1 locs ht hvm hw_55 hB hz1 hk1 hS => ?_)
      obtain ⟨u_56, rfl⟩ : ∃ z, z = u9 := ⟨_, rfl⟩
      obtain ⟨hP1, hK1, hD1⟩ := hB
      rw [ht] at hP1
      clear hK1
      try dsimp only at hw_55
      have hpd9 : PDx (dC, dI) classes A H1 [cI aC m_kind 9 kf, cI aC m_figure 9 ff, cI aC m_weight 9 wf, cI aC m_got 8 qf, cI aC m_setting 5 stf, cI aC m_price 81 pf, cI aC m_offer 81 of, cI aC m_gets 90 gf, cI aC m_yes 9 yf, cI aC m_buys 9 bf, cI aC m_ends 9 ef, cI aC m_carried 9 cf, cI aC m_kept 100 kp, oX12 g0 m_refused m_kind m_figure m_weight m_got m_setting (nI n) (nI sn) dn m_tape m_letter m_letterAt m_told tp mat stm m_kept him ki crs m_price m_offer m_gets m_yes m_buys m_ends m_carried m_row rm m_keptRow m_likeGets m_likePrice m_ahead, cI aC m_refused 7 u_56] := jn_N (wr := [cI aC m_kind 9 kf, cI aC m_figure 9 ff, cI aC m_weight 9 wf, cI aC m_got 8 qf, cI aC m_setting 5 stf, cI aC m_price 81 pf, cI aC m_offer 81 of, cI aC m_gets 90 gf, cI aC m_yes 9 yf, cI aC m_buys 9 bf, cI aC m_ends 9 ef, cI aC m_carried 9 cf, cI aC m_kept 100 kp]) hFc hk1 hP1 hD1 hP hD [14, 13] [0, 1, 2, 3, 4, 5, 6, 7, 8, 9, 10, 11, 12] rfl rfl (by decide) (by decide)
      have hP := hpd9.1
      have hD := hpd9.2
      clear hpd9
      generalize H1 = H at hP hS ⊢
      clear hPc hDc hFc hz1 hk1 hP1 hD1 ht hvm
      obtain ⟨hv9, -⟩ := hw_55
      have hpd9 := pd_N (cx := [oX12 g0 m_refused m_kind m_figure m_weight m_got m_setting (nI n) (nI sn) dn m_tape m_letter m_letterAt m_told tp mat stm m_kept him ki crs m_price m_offer m_gets m_yes m_buys m_ends m_carried m_row rm m_keptRow m_likeGets m_likePrice m_ahead, cI aC m_kind 9 kf, cI aC m_figure 9 ff, cI aC m_weight 9 wf, cI aC m_got 8 qf, cI aC m_setting 5 stf, cI aC m_price 81 pf, cI aC m_offer 81 of, cI aC m_gets 90 gf, cI aC m_yes 9 yf, cI aC m_buys 9 bf, cI aC m_ends 9 ef, cI aC m_carried 9 cf, cI aC m_kept 100 kp, cI aC m_refused 7 u_56]) hP hD [13, 0, 1, 2, 3, 4, 5, 6, 7, 8, 9, 10, 11, 12, 14] (by decide) rfl
      have hP9 := hpd9.1
      have hD9 := hpd9.2
      refine W.widen (k := 0) (n := 0) (by omega) (by omega) ?_
      exact W.iret (v := x_55) hx hb hr (fun t ht hW => ⟨⟨x_55, (ki, crs, kf, ff, wf, qf, stf, pf, of, gf, yf, bf, ef, cf, kp, u_56), rfl, by rcases bnd_n hz_18 c_4 with ⟨q1, q2⟩ | ⟨q1, q2, q3⟩ <;> first | exact ⟨RS5_r, fun q _ => rfl, by rw [hv9, q2]; unfold rSds; rw [if_pos (has_y hz_2 c_2), if_pos q1]⟩ | exact ⟨RS5_r, fun q _ => rfl, by rw [hv9, q3]; unfold rSds; rw [if_pos (has_y hz_2 c_2), if_neg q1, if_pos q2]⟩, by rw [ht]; exact hP9, va_K.moved hW.alike hK, hD9⟩, hS.F ht⟩) hS.2.2 dX12_seeds_34
  · refine lv_aload_n hx hb dX12_seeds_8 rfl (lv_at hl 0 rfl) ?_
    refine lv_iconst (v := -1) hx hb dX12_seeds_9 (by decide) ?_
    have hpd9 := pdf_N (cx := [oX12 g0 m_refused m_kind m_figure m_weight m_got m_setting (nI n) (nI sn) dn m_tape m_letter m_letterAt m_told tp mat stm m_kept him ki crs m_price m_offer m_gets m_yes m_buys m_ends m_carried m_row rm m_keptRow m_likeGets m_likePrice m_ahead, cI aC m_refused 7 mr]) hP hD hS hA [14, 13] (by decide) rfl
    have hPc := hpd9.1
    have hDc := hpd9.2.1
    have hFc := hpd9.2.2
    clear hpd9
    refine va_calli (va_runV (As := [Value.int (-1)]) (rest := []) ⟨hx, hb, hml, hown, hts⟩ (c_X12_no l dC dI aC H.size g0 m_refused m_kind m_figure m_weight m_got m_setting m_tape m_letter m_letterAt m_told m_kept m_price m_offer m_gets m_yes m_buys m_ends m_carried m_row m_keptRow m_likeGets m_likePrice m_ahead (nI n) (nI sn) dn tp mat stm him ki crs rm (-1) 1 mr (by decide) (by unfold vp_in; decide)) ⟨(callB_of 1 hts (gG kw_827) rfl rfl rfl (hts _ (gw kw_13 rfl)) (hts _ (gw kw_824 rfl)) hd_X12_no ⟨Nat.le_of_ble_eq_true rfl, Nat.le_of_ble_eq_true rfl⟩), (hts _ (gw kw_826 rfl)), (hts _ (gw ks_35 rfl))⟩ ⟨fb_std, va_recv (q := (RX12, TX12, 33)) hK hPc (ci := 12) (q0 := 0) rfl rfl, pre_std hPc hK hDc hN⟩ rfl rfl hl.1 rfl (lv_room (Nat.le_of_ble_eq_true rfl)) dX12_seeds_10 ⟨Nat.le_of_ble_eq_true rfl, Nat.le_of_ble_eq_true rfl⟩) hS (fun q _ h => hFc q h) hFc (fun x_57 u9 t9 H1 locs ht hvm hw_57 hB hz1 hk1 hS => ?_)
    obtain ⟨u_58, rfl⟩ : ∃ z, z = u9 := ⟨_, rfl⟩
    obtain ⟨hP1, hK1, hD1⟩ := hB
    rw [ht] at hP1
    clear hK1
    try dsimp only at hw_57
    have hpd9 : PDx (dC, dI) classes A H1 [cI aC m_kind 9 kf, cI aC m_figure 9 ff, cI aC m_weight 9 wf, cI aC m_got 8 qf, cI aC m_setting 5 stf, cI aC m_price 81 pf, cI aC m_offer 81 of, cI aC m_gets 90 gf, cI aC m_yes 9 yf, cI aC m_buys 9 bf, cI aC m_ends 9 ef, cI aC m_carried 9 cf, cI aC m_kept 100 kp, oX12 g0 m_refused m_kind m_figure m_weight m_got m_setting (nI n) (nI sn) dn m_tape m_letter m_letterAt m_told tp mat stm m_kept him ki crs m_price m_offer m_gets m_yes m_buys m_ends m_carried m_row rm m_keptRow m_likeGets m_likePrice m_ahead, cI aC m_refused 7 u_58] := jn_N (wr := [cI aC m_kind 9 kf, cI aC m_figure 9 ff, cI aC m_weight 9 wf, cI aC m_got 8 qf, cI aC m_setting 5 stf, cI aC m_price 81 pf, cI aC m_offer 81 of, cI aC m_gets 90 gf, cI aC m_yes 9 yf, cI aC m_buys 9 bf, cI aC m_ends 9 ef, cI aC m_carried 9 cf, cI aC m_kept 100 kp]) hFc hk1 hP1 hD1 hP hD [14, 13] [0, 1, 2, 3, 4, 5, 6, 7, 8, 9, 10, 11, 12] rfl rfl (by decide) (by decide)
    have hP := hpd9.1
    have hD := hpd9.2
    clear hpd9
    generalize H1 = H at hP hS ⊢
    clear hPc hDc hFc hz1 hk1 hP1 hD1 ht hvm
    obtain ⟨hv9, -⟩ := hw_57
    have hpd9 := pd_N (cx := [oX12 g0 m_refused m_kind m_figure m_weight m_got m_setting (nI n) (nI sn) dn m_tape m_letter m_letterAt m_told tp mat stm m_kept him ki crs m_price m_offer m_gets m_yes m_buys m_ends m_carried m_row rm m_keptRow m_likeGets m_likePrice m_ahead, cI aC m_kind 9 kf, cI aC m_figure 9 ff, cI aC m_weight 9 wf, cI aC m_got 8 qf, cI aC m_setting 5 stf, cI aC m_price 81 pf, cI aC m_offer 81 of, cI aC m_gets 90 gf, cI aC m_yes 9 yf, cI aC m_buys 9 bf, cI aC m_ends 9 ef, cI aC m_carried 9 cf, cI aC m_kept 100 kp, cI aC m_refused 7 u_58]) hP hD [13, 0, 1, 2, 3, 4, 5, 6, 7, 8, 9, 10, 11, 12, 14] (by decide) rfl
    have hP9 := hpd9.1
    have hD9 := hpd9.2
    refine W.widen (k := 0) (n := 0) (by omega) (by omega) ?_
    exact W.iret (v := x_57) hx hb hr (fun t ht hW => ⟨⟨x_57, (ki, crs, kf, ff, wf, qf, stf, pf, of, gf, yf, bf, ef, cf, kp, u_58), rfl, ⟨RS5_r, fun q _ => rfl, by rw [hv9]; unfold rSds; rw [if_neg (has_n hz_2 c_2)]⟩, by rw [ht]; exact hP9, va_K.moved hW.alike hK, hD9⟩, hS.F ht⟩) hS.2.2 dX12_seeds_13
