theorem bt_of {n : Nat} {s m : Nat} {x : Int32} (hn : n ≤ 8) (hs : s < 2 ^ n) (hm : m < n) (h : x = nI s) : bt x m = s.testBit m := by
  have := p28 hn
  rw [h]
  exact b_get (by omega) (by omega)
/-- what the reference's arrays hold of man i's plan -/
def MMT (n : Nat) (W : Nat → Nat) (law : Int32) (pl : PLT) (pf of gf yf bf ef cf : Nat → Int32) (i : Nat) : Prop :=
  (∀ q, i < q → q < n → pf (9 * i + q) = nI (zP pl i q)) ∧ (∀ q, q < n → of (9 * i + q) = nI (zO pl i q)) ∧ (∀ q, i ≤ q → q < n → gf (9 * i + q) = iI (zS pl i q)) ∧ yf i = zY pl i ∧ bf i = zB pl i ∧ ef i = zE pl i ∧ ((CNDs n W law i (zY pl i) → cf i = 1) ∧ (¬ CNDs n W law i (zY pl i) → cf i = 0))
theorem cnd_iff {n : Nat} {W : Nat → Nat} {law : Int32} {i : Nat} {Y : Int32} (hi : i < n) (hn : n ≤ 8) (hW : ∀ j, j < n → 1 ≤ W j) (hY : ∀ b, b < 32 → bt Y b = true → i ≤ b) (hYi : bt Y i = true) : CNDs n W law i Y ↔ nd law (sumr W i (n - i)) ≤ yw W Y 0 n := by
  rw [yw_from (i := i) (n := n) (by omega) (fun q hq => Bool.eq_false_iff.mpr (fun z => by have := hY q (by omega) z; omega))]
  unfold CNDs
  constructor
  · rintro (h | h)
    · have e : n - i = 1 := by omega
      rw [e]
      show nd law (0 + W (i + 0)) ≤ 0 + (if bt Y (i + 0) = true then W (i + 0) else 0)
      rw [Nat.add_zero, hYi, if_pos rfl, Nat.zero_add]
      exact nd_le (hW i hi)
    · exact h
  · exact Or.inr

set_option maxHeartbeats 1000000 in
set_option maxRecDepth 100000 in
/-- X12_doesBuy -/
theorem c_X12_doesBuy (l : Launch) (dC : Nat → ClassId) (dI : Nat → Nat → Nat) (aC : Nat → ClassId) (sz : Nat) (kk : Nat) (hkk : kk ≤ 6) : Met l yX12_doesBuy (wW yX12_doesBuy cX12_doesBuy 1 (some .boolean)) ({ frames := 0, cells := 0, slots := 0, locals := 0 } : Room) (va_Pc [Value.int (nI kk)] (fun U => U.heap.size = sz ∧ va_P (dC, dI) classes [] U.heap ∧ va_K (dC, dI) classes (TY aC) U ∧ va_D (fun _ => True) [] ∧ NX U)) (va_Qi (fun (r : Int32) (_ : Unit) => r = if (kk = 0 ∨ kk = 1 ∨ kk = 2 ∨ kk = 5) then 1 else 0) (fun (_ : Unit) (t : State) => va_P (dC, dI) classes [] t.heap ∧ va_K (dC, dI) classes (TY aC) t ∧ va_D (va_A [] sz) []) (va_A [] sz)) 0 0 (va_A [] sz) := by
  refine Met.ofW (cc := cX12_doesBuy) (maxL := 1) (ret := (some .boolean)) (by decide) rfl ?_
  intro p e s m args below meth c s₁ B hml hv
  obtain ⟨rfl, hsz, hP, hK, hD0, hN⟩ := hv
  have hx := B.exec
  have hb := B.bytes
  have hr := B.returns
  have hts0 := atoms_spec (ws := (wW yX12_doesBuy cX12_doesBuy 1 (some .boolean))) B.pre
  have hts : ∀ w9 ∈ lw_G, w9.before ([Value.int (nI kk)] : List Value).toArray s = true := fun w9 h9 => hts0 w9 (List.mem_cons_of_mem _ h9)
  have hown : s.vm.findClass RX12 = some m.cls := findClass_of_methodNamed (x := yX12_doesBuy) B.named
  have hlocks := B.notSynchronized
  subst hsz
  have hD := hD0.self (sz := s.heap.size)
  generalize hAe : va_A [] s.heap.size = A at hD ⊢
  have hA : ∀ q : Nat, s.heap.size ≤ q → A q := fun q h => by rw [← hAe]; exact Or.inr h
  obtain ⟨H, hHe⟩ : ∃ H : Heap, H = s.heap := ⟨_, rfl⟩
  have hS : va_S A s.heap H [] := by rw [hHe]; exact va_S.rf
  have hP : va_P (dC, dI) classes [] H := by rw [hHe]; exact hP
  have hl := lv_entry ([Value.int (nI kk)]) (n := 1) (Nat.le_of_ble_eq_true rfl)
  rw [lg_entry_eq]
  generalize (lg_sl ([Value.int (nI kk)]) ++ List.replicate (1 - (lg_sl ([Value.int (nI kk)])).length) Slot.unset).toArray = ls at hl ⊢
  have hl : lv_has ls 1 [(0, Value.int (nI kk))] := hl
  rw [← hHe]
  refine lv_iload_n hx hb dX12_doesBuy_0 rfl (lv_at hl 0 rfl) ?_
  refine lv_iconst (v := 3) hx hb dX12_doesBuy_1 (by decide) ?_
  refine lv_icmp_lt (tgt := 10) hx hb dX12_doesBuy_2 (by decide) (fun c_1 => ?_) (fun c_1 => ?_)
  · refine lv_iconst (v := 1) hx hb dX12_doesBuy_10 (by decide) ?_
    refine lv_goto (tgt := 15) hx hb dX12_doesBuy_11 (by decide) ?_
    have hpd9 := pd_N (cx := []) hP hD [] (by decide) rfl
    have hP9 := hpd9.1
    have hD9 := hpd9.2
    refine W.widen (k := 0) (n := 0) (by omega) (by omega) ?_
    exact W.zret (v := 1) hx hb hr rfl (fun t ht hW => ⟨⟨1, (), rfl, by rw [if_pos (by have := (nI_ltI (a := kk) (b := 3) (by omega) (by omega)).mp c_1; omega)], by rw [ht]; exact hP9, va_K.moved hW.alike hK, hD9⟩, hS.F ht⟩) hS.2.2 dX12_doesBuy_15
  · refine lv_iload_n hx hb dX12_doesBuy_5 rfl (lv_at hl 0 rfl) ?_
    refine lv_iconst (v := 5) hx hb dX12_doesBuy_6 (by decide) ?_
    refine lv_icmp_ne (tgt := 14) hx hb dX12_doesBuy_7 (by decide) (fun c_2 => ?_) (fun c_2 => ?_)
    · refine lv_iconst (v := 0) hx hb dX12_doesBuy_14 (by decide) ?_
      have hpd9 := pd_N (cx := []) hP hD [] (by decide) rfl
      have hP9 := hpd9.1
      have hD9 := hpd9.2
      refine W.widen (k := 0) (n := 0) (by omega) (by omega) ?_
      exact W.zret (v := 0) hx hb hr rfl (fun t ht hW => ⟨⟨0, (), rfl, by rw [if_neg (fun q => by have h1 : ¬ kk < 3 := (fun z => c_1 (nI_lt (a := kk) (b := 3) z (by omega))); have h2 : ¬ kk = 5 := (fun z => c_2 (by rw [z]; rfl)); omega)], by rw [ht]; exact hP9, va_K.moved hW.alike hK, hD9⟩, hS.F ht⟩) hS.2.2 dX12_doesBuy_15
    · refine lv_iconst (v := 1) hx hb dX12_doesBuy_10 (by decide) ?_
      refine lv_goto (tgt := 15) hx hb dX12_doesBuy_11 (by decide) ?_
      have hpd9 := pd_N (cx := []) hP hD [] (by decide) rfl
      have hP9 := hpd9.1
      have hD9 := hpd9.2
      refine W.widen (k := 0) (n := 0) (by omega) (by omega) ?_
      exact W.zret (v := 1) hx hb hr rfl (fun t ht hW => ⟨⟨1, (), rfl, by rw [if_pos (by have := (nI_eq (a := kk) (b := 5) (by omega) (by omega)).mp c_2; omega)], by rw [ht]; exact hP9, va_K.moved hW.alike hK, hD9⟩, hS.F ht⟩) hS.2.2 dX12_doesBuy_15

set_option maxHeartbeats 1000000 in
set_option maxRecDepth 100000 in
/-- X12_findOffer -/
theorem c_X12_findOffer (l : Launch) (dC : Nat → ClassId) (dI : Nat → Nat → Nat) (aC : Nat → ClassId) (sz : Nat) (g0 : Nat) (m_refused : Nat) (m_kind : Nat) (m_figure : Nat) (m_weight : Nat) (m_got : Nat) (m_setting : Nat) (m_tape : Nat) (m_letter : Nat) (m_letterAt : Nat) (m_told : Nat) (m_kept : Nat) (m_price : Nat) (m_offer : Nat) (m_gets : Nat) (m_yes : Nat) (m_buys : Nat) (m_ends : Nat) (m_carried : Nat) (m_row : Nat) (m_keptRow : Nat) (m_likeGets : Nat) (m_likePrice : Nat) (m_ahead : Nat) (msy : Int32) (mdn : Int32) (tp : Int32) (mat : Int32) (stm : Int32) (him : Int32) (ki : Int32) (crs : Int32) (rm : Int32) (n : Nat) (kf : Nat → Int32) (ff : Nat → Int32) (wf : Nat → Int32) (stf : Nat → Int32) (pf : Nat → Int32) (of : Nat → Int32) (bf : Nat → Int32) (K : Nat → Nat) (F : Nat → Nat) (W0 : Nat → Nat) (cq : Nat) (pl : PLT) (i : Nat) (hev : EVH n K F W0 cq kf ff wf stf) (hpl : PLAN n K F W0 cq (stf 1) (stf 2) (stf 3) pl) (hin : i < n) (hPq : ∀ q, i < q → q < n → pf (9 * i + q) = nI (zP pl i q)) : Met l yX12_findOffer (wW yX12_findOffer cX12_findOffer 3 (none : Option FieldType)) ({ frames := 2, cells := 0, slots := 0, locals := 50 } : Room) (va_Pc [Value.ref g0, Value.int (nI i)] (fun U => U.heap.size = sz ∧ va_P (dC, dI) classes [oX12 g0 m_refused m_kind m_figure m_weight m_got m_setting (nI n) msy mdn m_tape m_letter m_letterAt m_told tp mat stm m_kept him ki crs m_price m_offer m_gets m_yes m_buys m_ends m_carried m_row rm m_keptRow m_likeGets m_likePrice m_ahead, cI aC m_kind 9 kf, cI aC m_figure 9 ff, cI aC m_weight 9 wf, cI aC m_setting 5 stf, cI aC m_price 81 pf, cI aC m_offer 81 of, cI aC m_buys 9 bf] U.heap ∧ va_K (dC, dI) classes (TY aC) U ∧ va_D (fun _ => True) [oX12 g0 m_refused m_kind m_figure m_weight m_got m_setting (nI n) msy mdn m_tape m_letter m_letterAt m_told tp mat stm m_kept him ki crs m_price m_offer m_gets m_yes m_buys m_ends m_carried m_row rm m_keptRow m_likeGets m_likePrice m_ahead, cI aC m_kind 9 kf, cI aC m_figure 9 ff, cI aC m_weight 9 wf, cI aC m_setting 5 stf, cI aC m_price 81 pf, cI aC m_offer 81 of, cI aC m_buys 9 bf] ∧ NX U)) (va_Qv (fun (u : (Nat → Int32) × (Nat → Int32)) => match u with | (of2, bf2) => (∀ q, q < n → of2 (9 * i + q) = nI ((zO pl i) q)) ∧ bf2 i = zB pl i ∧ (∀ k, k < 9 * i ∨ 9 * i + 9 ≤ k → of2 k = of k) ∧ ∀ q, q ≠ i → bf2 q = bf q) (fun (u : (Nat → Int32) × (Nat → Int32)) (t : State) => match u with | (of2, bf2) => va_P (dC, dI) classes [oX12 g0 m_refused m_kind m_figure m_weight m_got m_setting (nI n) msy mdn m_tape m_letter m_letterAt m_told tp mat stm m_kept him ki crs m_price m_offer m_gets m_yes m_buys m_ends m_carried m_row rm m_keptRow m_likeGets m_likePrice m_ahead, cI aC m_kind 9 kf, cI aC m_figure 9 ff, cI aC m_weight 9 wf, cI aC m_setting 5 stf, cI aC m_price 81 pf, cI aC m_offer 81 of2, cI aC m_buys 9 bf2] t.heap ∧ va_K (dC, dI) classes (TY aC) t ∧ va_D (va_A [oX12 g0 m_refused m_kind m_figure m_weight m_got m_setting (nI n) msy mdn m_tape m_letter m_letterAt m_told tp mat stm m_kept him ki crs m_price m_offer m_gets m_yes m_buys m_ends m_carried m_row rm m_keptRow m_likeGets m_likePrice m_ahead, cI aC m_kind 9 kf, cI aC m_figure 9 ff, cI aC m_weight 9 wf, cI aC m_setting 5 stf, cI aC m_price 81 pf, cI aC m_offer 81 of, cI aC m_buys 9 bf] sz) [oX12 g0 m_refused m_kind m_figure m_weight m_got m_setting (nI n) msy mdn m_tape m_letter m_letterAt m_told tp mat stm m_kept him ki crs m_price m_offer m_gets m_yes m_buys m_ends m_carried m_row rm m_keptRow m_likeGets m_likePrice m_ahead, cI aC m_kind 9 kf, cI aC m_figure 9 ff, cI aC m_weight 9 wf, cI aC m_setting 5 stf, cI aC m_price 81 pf, cI aC m_offer 81 of2, cI aC m_buys 9 bf2]) (va_A [oX12 g0 m_refused m_kind m_figure m_weight m_got m_setting (nI n) msy mdn m_tape m_letter m_letterAt m_told tp mat stm m_kept him ki crs m_price m_offer m_gets m_yes m_buys m_ends m_carried m_row rm m_keptRow m_likeGets m_likePrice m_ahead, cI aC m_kind 9 kf, cI aC m_figure 9 ff, cI aC m_weight 9 wf, cI aC m_setting 5 stf, cI aC m_price 81 pf, cI aC m_offer 81 of, cI aC m_buys 9 bf] sz)) 0 0 (va_A [oX12 g0 m_refused m_kind m_figure m_weight m_got m_setting (nI n) msy mdn m_tape m_letter m_letterAt m_told tp mat stm m_kept him ki crs m_price m_offer m_gets m_yes m_buys m_ends m_carried m_row rm m_keptRow m_likeGets m_likePrice m_ahead, cI aC m_kind 9 kf, cI aC m_figure 9 ff, cI aC m_weight 9 wf, cI aC m_setting 5 stf, cI aC m_price 81 pf, cI aC m_offer 81 of, cI aC m_buys 9 bf] sz) := by
  refine Met.ofW (cc := cX12_findOffer) (maxL := 3) (ret := (none : Option FieldType)) (by decide) rfl ?_
  intro p e s m args below meth c s₁ B hml hv
  obtain ⟨rfl, hsz, hP, hK, hD0, hN⟩ := hv
  have hx := B.exec
  have hb := B.bytes
  have hr := B.returns
  have hts0 := atoms_spec (ws := (wW yX12_findOffer cX12_findOffer 3 (none : Option FieldType))) B.pre
  have hts : ∀ w9 ∈ lw_G, w9.before ([Value.ref g0, Value.int (nI i)] : List Value).toArray s = true := fun w9 h9 => hts0 w9 (List.mem_cons_of_mem _ h9)
  have hown : s.vm.findClass RX12 = some m.cls := findClass_of_methodNamed (x := yX12_findOffer) B.named
  have hlocks := B.notSynchronized
  subst hsz
  have hD := hD0.self (sz := s.heap.size)
  generalize hAe : va_A [oX12 g0 m_refused m_kind m_figure m_weight m_got m_setting (nI n) msy mdn m_tape m_letter m_letterAt m_told tp mat stm m_kept him ki crs m_price m_offer m_gets m_yes m_buys m_ends m_carried m_row rm m_keptRow m_likeGets m_likePrice m_ahead, cI aC m_kind 9 kf, cI aC m_figure 9 ff, cI aC m_weight 9 wf, cI aC m_setting 5 stf, cI aC m_price 81 pf, cI aC m_offer 81 of, cI aC m_buys 9 bf] s.heap.size = A at hD ⊢
  have hA : ∀ q : Nat, s.heap.size ≤ q → A q := fun q h => by rw [← hAe]; exact Or.inr h
  obtain ⟨H, hHe⟩ : ∃ H : Heap, H = s.heap := ⟨_, rfl⟩
  have hS : va_S A s.heap H [] := by rw [hHe]; exact va_S.rf
  have hP : va_P (dC, dI) classes [oX12 g0 m_refused m_kind m_figure m_weight m_got m_setting (nI n) msy mdn m_tape m_letter m_letterAt m_told tp mat stm m_kept him ki crs m_price m_offer m_gets m_yes m_buys m_ends m_carried m_row rm m_keptRow m_likeGets m_likePrice m_ahead, cI aC m_kind 9 kf, cI aC m_figure 9 ff, cI aC m_weight 9 wf, cI aC m_setting 5 stf, cI aC m_price 81 pf, cI aC m_offer 81 of, cI aC m_buys 9 bf] H := by rw [hHe]; exact hP
  have hl := lv_entry ([Value.ref g0, Value.int (nI i)]) (n := 3) (Nat.le_of_ble_eq_true rfl)
  rw [lg_entry_eq]
  generalize (lg_sl ([Value.ref g0, Value.int (nI i)]) ++ List.replicate (3 - (lg_sl ([Value.ref g0, Value.int (nI i)])).length) Slot.unset).toArray = ls at hl ⊢
  have hl : lv_has ls 3 [(0, Value.ref g0), (1, Value.int (nI i))] := hl
  rw [← hHe]
  have hn8 := hev.1
  obtain ⟨⟨hkf, hkle⟩, ⟨hff, hfle⟩, -⟩ := hev.2.2.2 i hin
  refine lv_iconst (v := 0) hx hb dX12_findOffer_0 (by decide) ?_
  refine lv_istore_n (lv' := [(2, Value.int 0), (0, Value.ref g0), (1, Value.int (nI i))]) hx hb dX12_findOffer_1 rfl hl (by decide) rfl (fun ls hl => ?_)
  have lp_2 : ∀ (fu : Nat) (m9 : Nat) (oc : Nat → Int32) (hfu : n - m9 < fu) (hm9 : m9 ≤ n) (hz : ∀ q, q < m9 → oc (9 * i + q) = nI 0) (hfr : ∀ k, k < 9 * i ∨ 9 * i + 9 ≤ k → oc k = of k) (H : Heap) (locs : List Loc) (ls : Array Slot), va_P (dC, dI) classes [oX12 g0 m_refused m_kind m_figure m_weight m_got m_setting (nI n) msy mdn m_tape m_letter m_letterAt m_told tp mat stm m_kept him ki crs m_price m_offer m_gets m_yes m_buys m_ends m_carried m_row rm m_keptRow m_likeGets m_likePrice m_ahead, cI aC m_kind 9 kf, cI aC m_figure 9 ff, cI aC m_weight 9 wf, cI aC m_setting 5 stf, cI aC m_price 81 pf, cI aC m_offer 81 oc, cI aC m_buys 9 bf] H → va_D A [oX12 g0 m_refused m_kind m_figure m_weight m_got m_setting (nI n) msy mdn m_tape m_letter m_letterAt m_told tp mat stm m_kept him ki crs m_price m_offer m_gets m_yes m_buys m_ends m_carried m_row rm m_keptRow m_likeGets m_likePrice m_ahead, cI aC m_kind 9 kf, cI aC m_figure 9 ff, cI aC m_weight 9 wf, cI aC m_setting 5 stf, cI aC m_price 81 pf, cI aC m_offer 81 oc, cI aC m_buys 9 bf] → va_S A s.heap H locs → lv_has ls 3 [(0, Value.ref g0), (1, Value.int (nI i)), (2, Value.int (nI m9))] → W p l e (headSpec (wW yX12_findOffer cX12_findOffer 3 (none : Option FieldType)) ({ frames := 2, cells := 0, slots := 0, locals := 50 } : Room)).room s m ([Value.ref g0, Value.int (nI i)] : List Value).toArray below meth c H locs 0 0 (MQ below (va_Qv (fun (u : (Nat → Int32) × (Nat → Int32)) => match u with | (of2, bf2) => (∀ q, q < n → of2 (9 * i + q) = nI ((zO pl i) q)) ∧ bf2 i = zB pl i ∧ (∀ k, k < 9 * i ∨ 9 * i + 9 ≤ k → of2 k = of k) ∧ ∀ q, q ≠ i → bf2 q = bf q) (fun (u : (Nat → Int32) × (Nat → Int32)) (t : State) => match u with | (of2, bf2) => va_P (dC, dI) classes [oX12 g0 m_refused m_kind m_figure m_weight m_got m_setting (nI n) msy mdn m_tape m_letter m_letterAt m_told tp mat stm m_kept him ki crs m_price m_offer m_gets m_yes m_buys m_ends m_carried m_row rm m_keptRow m_likeGets m_likePrice m_ahead, cI aC m_kind 9 kf, cI aC m_figure 9 ff, cI aC m_weight 9 wf, cI aC m_setting 5 stf, cI aC m_price 81 pf, cI aC m_offer 81 of2, cI aC m_buys 9 bf2] t.heap ∧ va_K (dC, dI) classes (TY aC) t ∧ va_D A [oX12 g0 m_refused m_kind m_figure m_weight m_got m_setting (nI n) msy mdn m_tape m_letter m_letterAt m_told tp mat stm m_kept him ki crs m_price m_offer m_gets m_yes m_buys m_ends m_carried m_row rm m_keptRow m_likeGets m_likePrice m_ahead, cI aC m_kind 9 kf, cI aC m_figure 9 ff, cI aC m_weight 9 wf, cI aC m_setting 5 stf, cI aC m_price 81 pf, cI aC m_offer 81 of2, cI aC m_buys 9 bf2]) A) ([Value.ref g0, Value.int (nI i)] : List Value).toArray s 0 0 A) (F0 m 2 ls []) := by
    intro fu
    induction fu with
    | zero => intro m9 oc hfu; exact absurd hfu (Nat.not_lt_zero _)
    | succ fu ih_2 =>
      intro m9 oc hfu hm9 hz hfr H locs ls hP hD hS hl
      refine lv_iload_n hx hb dX12_findOffer_2 rfl (lv_at hl 2 rfl) ?_
      refine lv_aload_n hx hb dX12_findOffer_3 rfl (lv_at hl 0 rfl) ?_
      refine va_get (D := (dC, dI)) (ci := 12) (v := Value.int (nI n)) (C := RX12) (T := TX12) (N := 33) hx hb hts inX12 hown hK hP 0 rfl rfl 6 (by decide) (hts _ (gw kw_723 rfl)) (fun _ h9 => h9) rfl dX12_findOffer_4 ?_
      refine lv_icmp_ge (tgt := 28) hx hb dX12_findOffer_7 (by decide) (fun c_1 => ?_) (fun c_1 => ?_)
      · have hmn : m9 = n := by
          rcases Nat.lt_or_ge m9 n with q | q
          · exact absurd c_1 (nI_ge q (by omega))
          · omega
        refine lv_aload_n hx hb dX12_findOffer_28 rfl (lv_at hl 0 rfl) ?_
        refine va_get (D := (dC, dI)) (ci := 12) (v := Value.ref m_offer) (C := RX12) (T := TX12) (N := 33) hx hb hts inX12 hown hK hP 0 rfl rfl 21 (by decide) (hts _ (gw kw_738 rfl)) (fun _ h9 => h9) rfl dX12_findOffer_29 ?_
        refine lv_bipush (v := 9) hx hb dX12_findOffer_32 (by decide) ?_
        refine lv_iload_n hx hb dX12_findOffer_34 rfl (lv_at hl 1 rfl) ?_
        refine lv_imul hx hb dX12_findOffer_35 ?_
        refine lv_topi (fun x_2 e_2 => ?_)
        have h9 : x_2 = nI (9 * i) := by rw [e_2]; exact pk_mul 9 i
        subst h9
        refine lv_iload_n hx hb dX12_findOffer_36 rfl (lv_at hl 1 rfl) ?_
        refine lv_iadd hx hb dX12_findOffer_37 ?_
        refine lv_topi (fun x_3 e_3 => ?_)
        have h9 : x_3 = nI (9 * i + i) := by rw [e_3, nI_add]
        subst h9
        refine lv_aload_n hx hb dX12_findOffer_38 rfl (lv_at hl 0 rfl) ?_
        refine va_get (D := (dC, dI)) (ci := 12) (v := Value.ref m_setting) (C := RX12) (T := TX12) (N := 33) hx hb hts inX12 hown hK hP 0 rfl rfl 5 (by decide) (hts _ (gw kw_722 rfl)) (fun _ h9 => h9) rfl dX12_findOffer_39 ?_
        refine lv_iconst (v := 0) hx hb dX12_findOffer_42 (by decide) ?_
        have h_4 : vp_in 0 5 := by unfold vp_in; decide
        refine va_iald hx hb hK hP 4 0 rfl rfl h_4 dX12_findOffer_43 ?_
        refine lv_topi (fun x_5 e_5 => ?_)
        have h9 : x_5 = nI cq := by rw [e_5]; exact hev.2.2.1
        subst h9
        have h_6 : vp_in (nI (9 * i + i)) 81 := by first | exact vp_in_nI (by omega) (by omega) | (unfold vp_in; decide) | (subst_vars; first | (unfold vp_in; decide) | exact vp_in_nI (by omega) (by omega))
        refine va_iast hx hb hK hP hD hS 6 0 rfl rfl h_6 dX12_findOffer_44 (fun H locs hP hD hS => ?_)
        obtain ⟨f_7, e_f_7⟩ : ∃ y : Nat → Int32, y = upd oc (nI (9 * i + i) : Int32).toNatClampNeg (nI cq) := ⟨_, rfl⟩
        have hpd9 : PDx (dC, dI) classes A H [oX12 g0 m_refused m_kind m_figure m_weight m_got m_setting (nI n) msy mdn m_tape m_letter m_letterAt m_told tp mat stm m_kept him ki crs m_price m_offer m_gets m_yes m_buys m_ends m_carried m_row rm m_keptRow m_likeGets m_likePrice m_ahead, cI aC m_kind 9 kf, cI aC m_figure 9 ff, cI aC m_weight 9 wf, cI aC m_setting 5 stf, cI aC m_price 81 pf, cI aC m_offer 81 f_7, cI aC m_buys 9 bf] := by rw [e_f_7]; exact ⟨hP, hD⟩
        have hP := hpd9.1
        have hD := hpd9.2
        clear hpd9
        have hO1 : ∀ q, q < n → f_7 (9 * i + q) = nI ((KO cq i) q) := fun q hq => by
          rw [e_f_7, nI_clamp (by omega)]
          unfold KO
          by_cases e : q = i
          · rw [e, pk_us, if_pos rfl]
          · rw [pk_un (by omega), if_neg e]; exact hz q (by omega)
        have hfr1 : ∀ k, k < 9 * i ∨ 9 * i + 9 ≤ k → f_7 k = of k := fun k hk => by rw [e_f_7, nI_clamp (by omega), pk_un (by omega)]; exact hfr k hk
        refine lv_aload_n hx hb dX12_findOffer_45 rfl (lv_at hl 0 rfl) ?_
        refine va_get (D := (dC, dI)) (ci := 12) (v := Value.ref m_buys) (C := RX12) (T := TX12) (N := 33) hx hb hts inX12 hown hK hP 0 rfl rfl 24 (by decide) (hts _ (gw kw_741 rfl)) (fun _ h9 => h9) rfl dX12_findOffer_46 ?_
        refine lv_iload_n hx hb dX12_findOffer_49 rfl (lv_at hl 1 rfl) ?_
        refine lv_bipush (v := -9) hx hb dX12_findOffer_50 (by decide) ?_
        have h_8 : vp_in (nI i) 9 := by first | exact vp_in_nI (by omega) (by omega) | (unfold vp_in; decide) | (subst_vars; first | (unfold vp_in; decide) | exact vp_in_nI (by omega) (by omega))
        refine va_iast hx hb hK hP hD hS 7 0 rfl rfl h_8 dX12_findOffer_52 (fun H locs hP hD hS => ?_)
        obtain ⟨f_9, e_f_9⟩ : ∃ y : Nat → Int32, y = upd bf (nI i : Int32).toNatClampNeg (-9) := ⟨_, rfl⟩
        have hpd9 : PDx (dC, dI) classes A H [oX12 g0 m_refused m_kind m_figure m_weight m_got m_setting (nI n) msy mdn m_tape m_letter m_letterAt m_told tp mat stm m_kept him ki crs m_price m_offer m_gets m_yes m_buys m_ends m_carried m_row rm m_keptRow m_likeGets m_likePrice m_ahead, cI aC m_kind 9 kf, cI aC m_figure 9 ff, cI aC m_weight 9 wf, cI aC m_setting 5 stf, cI aC m_price 81 pf, cI aC m_offer 81 f_7, cI aC m_buys 9 f_9] := by rw [e_f_9]; exact ⟨hP, hD⟩
        have hP := hpd9.1
        have hD := hpd9.2
        clear hpd9
        have hbi : f_9 i = -9 := by rw [e_f_9, nI_clamp (by omega), pk_us]
        have hbo : ∀ q, q ≠ i → f_9 q = bf q := fun q h => by rw [e_f_9, nI_clamp (by omega), pk_un h]
        refine lv_aload_n hx hb dX12_findOffer_53 rfl (lv_at hl 0 rfl) ?_
        refine va_get (D := (dC, dI)) (ci := 12) (v := Value.ref m_kind) (C := RX12) (T := TX12) (N := 33) hx hb hts inX12 hown hK hP 0 rfl rfl 1 (by decide) (hts _ (gw kw_718 rfl)) (fun _ h9 => h9) rfl dX12_findOffer_54 ?_
        refine lv_iload_n hx hb dX12_findOffer_57 rfl (lv_at hl 1 rfl) ?_
        have h_10 : vp_in (nI i) 9 := by first | exact vp_in_nI (by omega) (by omega) | (unfold vp_in; decide) | (subst_vars; first | (unfold vp_in; decide) | exact vp_in_nI (by omega) (by omega))
        refine va_iald hx hb hK hP 1 0 rfl rfl h_10 dX12_findOffer_58 ?_
        refine lv_topi (fun x_11 e_11 => ?_)
        have h9 : x_11 = nI (K i) := by rw [e_11, nI_clamp (by omega)]; exact hkf
        subst h9
        have hpd9 := pdf_N (cx := []) hP hD hS hA [] (by decide) rfl
        have hPc := hpd9.1
        have hDc := hpd9.2.1
        have hFc := hpd9.2.2
        clear hpd9
        refine va_calli (va_runS (As := [Value.int (nI (K i))]) (rest := []) ⟨hx, hb, hml, hown, hts⟩ (c_X12_doesBuy l dC dI aC H.size (K i) (hkle)) ⟨(callB_of 1 hts (gG kw_914) rfl rfl rfl (hts _ (gw kw_13 rfl)) (hts _ (gw kw_912 rfl)) hd_X12_doesBuy ⟨Nat.le_of_ble_eq_true rfl, Nat.le_of_ble_eq_true rfl⟩), (hts _ (gw kw_913 rfl))⟩ ⟨fb_std, pre_std hPc hK hDc hN⟩ rfl rfl hl.1 rfl (lv_room (Nat.le_of_ble_eq_true rfl)) dX12_findOffer_59 ⟨Nat.le_of_ble_eq_true rfl, Nat.le_of_ble_eq_true rfl⟩) hS (fun q _ h => hFc q h) hFc (fun x_12 u9 t9 H1 locs ht hvm hw_12 hB hz1 hk1 hS => ?_)
        obtain ⟨hP1, hK1, hD1⟩ := hB
        rw [ht] at hP1
        clear hK1
        try dsimp only at hw_12
        have hpd9 : PDx (dC, dI) classes A H1 [oX12 g0 m_refused m_kind m_figure m_weight m_got m_setting (nI n) msy mdn m_tape m_letter m_letterAt m_told tp mat stm m_kept him ki crs m_price m_offer m_gets m_yes m_buys m_ends m_carried m_row rm m_keptRow m_likeGets m_likePrice m_ahead, cI aC m_kind 9 kf, cI aC m_figure 9 ff, cI aC m_weight 9 wf, cI aC m_setting 5 stf, cI aC m_price 81 pf, cI aC m_offer 81 f_7, cI aC m_buys 9 f_9] := jn_N (wr := [oX12 g0 m_refused m_kind m_figure m_weight m_got m_setting (nI n) msy mdn m_tape m_letter m_letterAt m_told tp mat stm m_kept him ki crs m_price m_offer m_gets m_yes m_buys m_ends m_carried m_row rm m_keptRow m_likeGets m_likePrice m_ahead, cI aC m_kind 9 kf, cI aC m_figure 9 ff, cI aC m_weight 9 wf, cI aC m_setting 5 stf, cI aC m_price 81 pf, cI aC m_offer 81 f_7, cI aC m_buys 9 f_9]) hFc hk1 hP1 hD1 hP hD [] [0, 1, 2, 3, 4, 5, 6, 7] rfl rfl (by decide) (by decide)
        have hP := hpd9.1
        have hD := hpd9.2
        clear hpd9
        generalize H1 = H at hP hS ⊢
        clear hPc hDc hFc hz1 hk1 hP1 hD1 ht hvm
        have hz_59 := hw_12
        refine lv_if_eq (tgt := 137) hx hb dX12_findOffer_62 (by decide) (fun c_13 => ?_) (fun c_13 => ?_)
        · have hKn : ¬ (K i = 0 ∨ K i = 1 ∨ K i = 2 ∨ K i = 5) := fun q => absurd (hz_59.symm.trans c_13) (by rw [if_pos q]; decide)
          refine lv_aload_n hx hb dX12_findOffer_137 rfl (lv_at hl 0 rfl) ?_
          refine va_get (D := (dC, dI)) (ci := 12) (v := Value.ref m_kind) (C := RX12) (T := TX12) (N := 33) hx hb hts inX12 hown hK hP 0 rfl rfl 1 (by decide) (hts _ (gw kw_718 rfl)) (fun _ h9 => h9) rfl dX12_findOffer_138 ?_
          refine lv_iload_n hx hb dX12_findOffer_141 rfl (lv_at hl 1 rfl) ?_
          have h_14 : vp_in (nI i) 9 := by first | exact vp_in_nI (by omega) (by omega) | (unfold vp_in; decide) | (subst_vars; first | (unfold vp_in; decide) | exact vp_in_nI (by omega) (by omega))
          refine va_iald hx hb hK hP 1 0 rfl rfl h_14 dX12_findOffer_142 ?_
          refine lv_topi (fun x_15 e_15 => ?_)
          have h9 : x_15 = nI (K i) := by rw [e_15, nI_clamp (by omega)]; exact hkf
          subst h9
          refine lv_iconst (v := 3) hx hb dX12_findOffer_143 (by decide) ?_
          refine lv_icmp_ne (tgt := 187) hx hb dX12_findOffer_144 (by decide) (fun c_16 => ?_) (fun c_16 => ?_)
          · refine lv_aload_n hx hb dX12_findOffer_187 rfl (lv_at hl 0 rfl) ?_
            refine lv_iload_n hx hb dX12_findOffer_188 rfl (lv_at hl 1 rfl) ?_
            refine lv_aload_n hx hb dX12_findOffer_189 rfl (lv_at hl 0 rfl) ?_
            refine va_get (D := (dC, dI)) (ci := 12) (v := Value.ref m_kind) (C := RX12) (T := TX12) (N := 33) hx hb hts inX12 hown hK hP 0 rfl rfl 1 (by decide) (hts _ (gw kw_718 rfl)) (fun _ h9 => h9) rfl dX12_findOffer_190 ?_
            refine lv_iload_n hx hb dX12_findOffer_193 rfl (lv_at hl 1 rfl) ?_
            have h_17 : vp_in (nI i) 9 := by first | exact vp_in_nI (by omega) (by omega) | (unfold vp_in; decide) | (subst_vars; first | (unfold vp_in; decide) | exact vp_in_nI (by omega) (by omega))
            refine va_iald hx hb hK hP 1 0 rfl rfl h_17 dX12_findOffer_194 ?_
            refine lv_topi (fun x_18 e_18 => ?_)
            have h9 : x_18 = nI (K i) := by rw [e_18, nI_clamp (by omega)]; exact hkf
            subst h9
            refine lv_bipush (v := 6) hx hb dX12_findOffer_195 (by decide) ?_
            refine lv_icmp_ne (tgt := 204) hx hb dX12_findOffer_197 (by decide) (fun c_19 => ?_) (fun c_19 => ?_)
            · refine lv_iconst (v := 0) hx hb dX12_findOffer_204 (by decide) ?_
              have hpd9 := pdf_N (cx := [oX12 g0 m_refused m_kind m_figure m_weight m_got m_setting (nI n) msy mdn m_tape m_letter m_letterAt m_told tp mat stm m_kept him ki crs m_price m_offer m_gets m_yes m_buys m_ends m_carried m_row rm m_keptRow m_likeGets m_likePrice m_ahead, cI aC m_figure 9 ff, cI aC m_offer 81 f_7]) hP hD hS hA [0, 2, 6] (by decide) rfl
              have hPc := hpd9.1
              have hDc := hpd9.2.1
              have hFc := hpd9.2.2
              clear hpd9
              refine va_callv (va_runV (As := [Value.int (nI i), Value.int 0]) (rest := []) ⟨hx, hb, hml, hown, hts⟩ (c_X12_offersFools_0 l dC dI aC H.size g0 m_refused m_kind m_figure m_weight m_got m_setting m_tape m_letter m_letterAt m_told m_kept m_price m_offer m_gets m_yes m_buys m_ends m_carried m_row m_keptRow m_likeGets m_likePrice m_ahead msy mdn tp mat stm him ki crs rm n ff f_7 i (F i) (KO cq i) (⟨hin, hn8⟩) (hff) (by omega) (hO1) (KO_le hev.2.1)) ⟨(callB_of 2 hts (gG kw_949) rfl rfl rfl (hts _ (gw kw_13 rfl)) (hts _ (gw kw_946 rfl)) hd_X12_offersFools ⟨Nat.le_of_ble_eq_true rfl, Nat.le_of_ble_eq_true rfl⟩), (hts _ (gw kw_948 rfl)), (hts _ (gw ks_56 rfl))⟩ ⟨fb_std, va_recv (q := (RX12, TX12, 33)) hK hPc (ci := 12) (q0 := 0) rfl rfl, pre_std hPc hK hDc hN⟩ rfl rfl hl.1 rfl (lv_room (Nat.le_of_ble_eq_true rfl)) dX12_findOffer_205 ⟨Nat.le_of_ble_eq_true rfl, Nat.le_of_ble_eq_true rfl⟩) hS (fun q _ h => hFc q h) hFc (fun u9 t9 H1 locs ht hvm hw_20 hB hz1 hk1 hS => ?_)
              obtain ⟨u_21, rfl⟩ : ∃ z, z = u9 := ⟨_, rfl⟩
              obtain ⟨hP1, hK1, hD1⟩ := hB
              rw [ht] at hP1
              clear hK1
              try dsimp only at hw_20
              have hpd9 : PDx (dC, dI) classes A H1 [cI aC m_kind 9 kf, cI aC m_weight 9 wf, cI aC m_setting 5 stf, cI aC m_price 81 pf, cI aC m_buys 9 f_9, oX12 g0 m_refused m_kind m_figure m_weight m_got m_setting (nI n) msy mdn m_tape m_letter m_letterAt m_told tp mat stm m_kept him ki crs m_price m_offer m_gets m_yes m_buys m_ends m_carried m_row rm m_keptRow m_likeGets m_likePrice m_ahead, cI aC m_figure 9 ff, cI aC m_offer 81 u_21] := jn_N (wr := [cI aC m_kind 9 kf, cI aC m_weight 9 wf, cI aC m_setting 5 stf, cI aC m_price 81 pf, cI aC m_buys 9 f_9]) hFc hk1 hP1 hD1 hP hD [0, 2, 6] [1, 3, 4, 5, 7] rfl rfl (by decide) (by decide)
              have hP := hpd9.1
              have hD := hpd9.2
              clear hpd9
              generalize H1 = H at hP hS ⊢
              clear hPc hDc hFc hz1 hk1 hP1 hD1 ht hvm
              obtain ⟨hf1, hf2⟩ := hw_20
              have hk9 : K i = 4 := by
                have h1 : ¬ K i = 3 := fun q => c_16 (by rw [q]; rfl)
                have h2 : ¬ K i = 6 := fun q => c_19 (by rw [q]; rfl)
                omega
              have hfin9 := or_fin hpl hin hn8 hkle (of_4 (n := n) (F := F) (B := f_9 i) hk9 hbi hev.2.1 hfle).2 hf1
              have hpost : (∀ q, q < n → u_21 (9 * i + q) = nI ((zO pl i) q)) ∧ f_9 i = zB pl i ∧ (∀ k, k < 9 * i ∨ 9 * i + 9 ≤ k → u_21 k = of k) ∧ ∀ q, q ≠ i → f_9 q = bf q := ⟨hfin9.1, hfin9.2, fun k hk => (hf2 k hk).trans (hfr1 k hk), hbo⟩
              have hpd9 := pd_N (cx := [oX12 g0 m_refused m_kind m_figure m_weight m_got m_setting (nI n) msy mdn m_tape m_letter m_letterAt m_told tp mat stm m_kept him ki crs m_price m_offer m_gets m_yes m_buys m_ends m_carried m_row rm m_keptRow m_likeGets m_likePrice m_ahead, cI aC m_kind 9 kf, cI aC m_figure 9 ff, cI aC m_weight 9 wf, cI aC m_setting 5 stf, cI aC m_price 81 pf, cI aC m_offer 81 u_21, cI aC m_buys 9 f_9]) hP hD [5, 0, 6, 1, 2, 3, 7, 4] (by decide) rfl
              have hP9 := hpd9.1
              have hD9 := hpd9.2
              refine W.widen (k := 0) (n := 0) (by omega) (by omega) ?_
              exact W.vret hx hb hr (fun t ht hW => ⟨⟨(u_21, f_9), rfl, hpost, by rw [ht]; exact hP9, va_K.moved hW.alike hK, hD9⟩, hS.F ht⟩) hS.2.2 dX12_findOffer_208
            · refine lv_iconst (v := 1) hx hb dX12_findOffer_200 (by decide) ?_
              refine lv_goto (tgt := 205) hx hb dX12_findOffer_201 (by decide) ?_
              have hpd9 := pdf_N (cx := [oX12 g0 m_refused m_kind m_figure m_weight m_got m_setting (nI n) msy mdn m_tape m_letter m_letterAt m_told tp mat stm m_kept him ki crs m_price m_offer m_gets m_yes m_buys m_ends m_carried m_row rm m_keptRow m_likeGets m_likePrice m_ahead, cI aC m_figure 9 ff, cI aC m_offer 81 f_7]) hP hD hS hA [0, 2, 6] (by decide) rfl
              have hPc := hpd9.1
              have hDc := hpd9.2.1
              have hFc := hpd9.2.2
              clear hpd9
              refine va_callv (va_runV (As := [Value.int (nI i), Value.int 1]) (rest := []) ⟨hx, hb, hml, hown, hts⟩ (c_X12_offersFools_1 l dC dI aC H.size g0 m_refused m_kind m_figure m_weight m_got m_setting m_tape m_letter m_letterAt m_told m_kept m_price m_offer m_gets m_yes m_buys m_ends m_carried m_row m_keptRow m_likeGets m_likePrice m_ahead msy mdn tp mat stm him ki crs rm n ff f_7 i (F i) (KO cq i) (⟨hin, hn8⟩) (hff) (by omega) (hO1) (KO_le hev.2.1)) ⟨(callB_of 2 hts (gG kw_949) rfl rfl rfl (hts _ (gw kw_13 rfl)) (hts _ (gw kw_946 rfl)) hd_X12_offersFools ⟨Nat.le_of_ble_eq_true rfl, Nat.le_of_ble_eq_true rfl⟩), (hts _ (gw kw_948 rfl)), (hts _ (gw ks_56 rfl))⟩ ⟨fb_std, va_recv (q := (RX12, TX12, 33)) hK hPc (ci := 12) (q0 := 0) rfl rfl, pre_std hPc hK hDc hN⟩ rfl rfl hl.1 rfl (lv_room (Nat.le_of_ble_eq_true rfl)) dX12_findOffer_205 ⟨Nat.le_of_ble_eq_true rfl, Nat.le_of_ble_eq_true rfl⟩) hS (fun q _ h => hFc q h) hFc (fun u9 t9 H1 locs ht hvm hw_22 hB hz1 hk1 hS => ?_)
              obtain ⟨u_23, rfl⟩ : ∃ z, z = u9 := ⟨_, rfl⟩
              obtain ⟨hP1, hK1, hD1⟩ := hB
              rw [ht] at hP1
              clear hK1
              try dsimp only at hw_22
              have hpd9 : PDx (dC, dI) classes A H1 [cI aC m_kind 9 kf, cI aC m_weight 9 wf, cI aC m_setting 5 stf, cI aC m_price 81 pf, cI aC m_buys 9 f_9, oX12 g0 m_refused m_kind m_figure m_weight m_got m_setting (nI n) msy mdn m_tape m_letter m_letterAt m_told tp mat stm m_kept him ki crs m_price m_offer m_gets m_yes m_buys m_ends m_carried m_row rm m_keptRow m_likeGets m_likePrice m_ahead, cI aC m_figure 9 ff, cI aC m_offer 81 u_23] := jn_N (wr := [cI aC m_kind 9 kf, cI aC m_weight 9 wf, cI aC m_setting 5 stf, cI aC m_price 81 pf, cI aC m_buys 9 f_9]) hFc hk1 hP1 hD1 hP hD [0, 2, 6] [1, 3, 4, 5, 7] rfl rfl (by decide) (by decide)
              have hP := hpd9.1
              have hD := hpd9.2
              clear hpd9
              generalize H1 = H at hP hS ⊢
              clear hPc hDc hFc hz1 hk1 hP1 hD1 ht hvm
              obtain ⟨hf1, hf2⟩ := hw_22
              have hk9 : K i = 6 := (nI_eq (a := K i) (b := 6) (by omega) (by omega)).mp c_19
              have hfin9 := or_fin hpl hin hn8 hkle (of_6 (n := n) (F := F) (B := f_9 i) hk9 hbi hev.2.1 hfle).2 hf1
              have hpost : (∀ q, q < n → u_23 (9 * i + q) = nI ((zO pl i) q)) ∧ f_9 i = zB pl i ∧ (∀ k, k < 9 * i ∨ 9 * i + 9 ≤ k → u_23 k = of k) ∧ ∀ q, q ≠ i → f_9 q = bf q := ⟨hfin9.1, hfin9.2, fun k hk => (hf2 k hk).trans (hfr1 k hk), hbo⟩
              have hpd9 := pd_N (cx := [oX12 g0 m_refused m_kind m_figure m_weight m_got m_setting (nI n) msy mdn m_tape m_letter m_letterAt m_told tp mat stm m_kept him ki crs m_price m_offer m_gets m_yes m_buys m_ends m_carried m_row rm m_keptRow m_likeGets m_likePrice m_ahead, cI aC m_kind 9 kf, cI aC m_figure 9 ff, cI aC m_weight 9 wf, cI aC m_setting 5 stf, cI aC m_price 81 pf, cI aC m_offer 81 u_23, cI aC m_buys 9 f_9]) hP hD [5, 0, 6, 1, 2, 3, 7, 4] (by decide) rfl
              have hP9 := hpd9.1
              have hD9 := hpd9.2
              refine W.widen (k := 0) (n := 0) (by omega) (by omega) ?_
              exact W.vret hx hb hr (fun t ht hW => ⟨⟨(u_23, f_9), rfl, hpost, by rw [ht]; exact hP9, va_K.moved hW.alike hK, hD9⟩, hS.F ht⟩) hS.2.2 dX12_findOffer_208
          · have hk3 : K i = 3 := (nI_eq (a := K i) (b := 3) (by omega) (by omega)).mp c_16
            refine lv_iload_n hx hb dX12_findOffer_147 rfl (lv_at hl 1 rfl) ?_
            refine lv_iconst (v := 1) hx hb dX12_findOffer_148 (by decide) ?_
            refine lv_iadd hx hb dX12_findOffer_149 ?_
            refine lv_topi (fun x_24 e_24 => ?_)
            refine lv_istore_n (lv' := [(2, Value.int x_24), (0, Value.ref g0), (1, Value.int (nI i))]) hx hb dX12_findOffer_150 rfl hl (by decide) rfl (fun ls hl => ?_)
            have h9 : x_24 = nI (i + 1) := by rw [e_24, nI_1]
            subst h9
            have lp_151 : ∀ (fu : Nat) (m9 : Nat) (oc : Nat → Int32) (hfu : n - m9 < fu) (hm9 : i < m9 ∧ m9 ≤ n) (hrow : ∀ q, q < n → oc (9 * i + q) = nI ((sE (KO cq i) i (cq / (n - i)) (m9 - (i + 1))) q)) (hfr2 : ∀ k, k < 9 * i ∨ 9 * i + 9 ≤ k → oc k = of k) (H : Heap) (locs : List Loc) (ls : Array Slot), va_P (dC, dI) classes [oX12 g0 m_refused m_kind m_figure m_weight m_got m_setting (nI n) msy mdn m_tape m_letter m_letterAt m_told tp mat stm m_kept him ki crs m_price m_offer m_gets m_yes m_buys m_ends m_carried m_row rm m_keptRow m_likeGets m_likePrice m_ahead, cI aC m_kind 9 kf, cI aC m_figure 9 ff, cI aC m_weight 9 wf, cI aC m_setting 5 stf, cI aC m_price 81 pf, cI aC m_offer 81 oc, cI aC m_buys 9 f_9] H → va_D A [oX12 g0 m_refused m_kind m_figure m_weight m_got m_setting (nI n) msy mdn m_tape m_letter m_letterAt m_told tp mat stm m_kept him ki crs m_price m_offer m_gets m_yes m_buys m_ends m_carried m_row rm m_keptRow m_likeGets m_likePrice m_ahead, cI aC m_kind 9 kf, cI aC m_figure 9 ff, cI aC m_weight 9 wf, cI aC m_setting 5 stf, cI aC m_price 81 pf, cI aC m_offer 81 oc, cI aC m_buys 9 f_9] → va_S A s.heap H locs → lv_has ls 3 [(0, Value.ref g0), (1, Value.int (nI i)), (2, Value.int (nI m9))] → W p l e (headSpec (wW yX12_findOffer cX12_findOffer 3 (none : Option FieldType)) ({ frames := 2, cells := 0, slots := 0, locals := 50 } : Room)).room s m ([Value.ref g0, Value.int (nI i)] : List Value).toArray below meth c H locs 0 0 (MQ below (va_Qv (fun (u : (Nat → Int32) × (Nat → Int32)) => match u with | (of2, bf2) => (∀ q, q < n → of2 (9 * i + q) = nI ((zO pl i) q)) ∧ bf2 i = zB pl i ∧ (∀ k, k < 9 * i ∨ 9 * i + 9 ≤ k → of2 k = of k) ∧ ∀ q, q ≠ i → bf2 q = bf q) (fun (u : (Nat → Int32) × (Nat → Int32)) (t : State) => match u with | (of2, bf2) => va_P (dC, dI) classes [oX12 g0 m_refused m_kind m_figure m_weight m_got m_setting (nI n) msy mdn m_tape m_letter m_letterAt m_told tp mat stm m_kept him ki crs m_price m_offer m_gets m_yes m_buys m_ends m_carried m_row rm m_keptRow m_likeGets m_likePrice m_ahead, cI aC m_kind 9 kf, cI aC m_figure 9 ff, cI aC m_weight 9 wf, cI aC m_setting 5 stf, cI aC m_price 81 pf, cI aC m_offer 81 of2, cI aC m_buys 9 bf2] t.heap ∧ va_K (dC, dI) classes (TY aC) t ∧ va_D A [oX12 g0 m_refused m_kind m_figure m_weight m_got m_setting (nI n) msy mdn m_tape m_letter m_letterAt m_told tp mat stm m_kept him ki crs m_price m_offer m_gets m_yes m_buys m_ends m_carried m_row rm m_keptRow m_likeGets m_likePrice m_ahead, cI aC m_kind 9 kf, cI aC m_figure 9 ff, cI aC m_weight 9 wf, cI aC m_setting 5 stf, cI aC m_price 81 pf, cI aC m_offer 81 of2, cI aC m_buys 9 bf2]) A) ([Value.ref g0, Value.int (nI i)] : List Value).toArray s 0 0 A) (F0 m 151 ls []) := by
              intro fu
              induction fu with
              | zero => intro m9 oc hfu; exact absurd hfu (Nat.not_lt_zero _)
              | succ fu ih_151 =>
                intro m9 oc hfu hm9 hrow hfr2 H locs ls hP hD hS hl
                refine lv_iload_n hx hb dX12_findOffer_151 rfl (lv_at hl 2 rfl) ?_
                refine lv_aload_n hx hb dX12_findOffer_152 rfl (lv_at hl 0 rfl) ?_
                refine va_get (D := (dC, dI)) (ci := 12) (v := Value.int (nI n)) (C := RX12) (T := TX12) (N := 33) hx hb hts inX12 hown hK hP 0 rfl rfl 6 (by decide) (hts _ (gw kw_723 rfl)) (fun _ h9 => h9) rfl dX12_findOffer_153 ?_
                refine lv_icmp_ge (tgt := 184) hx hb dX12_findOffer_156 (by decide) (fun c_25 => ?_) (fun c_25 => ?_)
                · have hmn : m9 = n := by
                    rcases Nat.lt_or_ge m9 n with q | q
                    · exact absurd c_25 (nI_ge q (by omega))
                    · omega
                  have hrw : ∀ q, q < n → oc (9 * i + q) = nI ((sE (KO cq i) i (cq / (n - i)) (n - 1 - i)) q) := fun q hq => by rw [hrow q hq, hmn, show n - (i + 1) = n - 1 - i by omega]
                  have hfin9 := or_fin hpl hin hn8 hkle (of_3 (B := f_9 i) hk3 hbi hev.2.1).2 hrw
                  have hpost : (∀ q, q < n → oc (9 * i + q) = nI ((zO pl i) q)) ∧ f_9 i = zB pl i ∧ (∀ k, k < 9 * i ∨ 9 * i + 9 ≤ k → oc k = of k) ∧ ∀ q, q ≠ i → f_9 q = bf q := ⟨hfin9.1, hfin9.2, hfr2, hbo⟩
                  refine lv_goto (tgt := 208) hx hb dX12_findOffer_184 (by decide) ?_
                  have hpd9 := pd_N (cx := [oX12 g0 m_refused m_kind m_figure m_weight m_got m_setting (nI n) msy mdn m_tape m_letter m_letterAt m_told tp mat stm m_kept him ki crs m_price m_offer m_gets m_yes m_buys m_ends m_carried m_row rm m_keptRow m_likeGets m_likePrice m_ahead, cI aC m_kind 9 kf, cI aC m_figure 9 ff, cI aC m_weight 9 wf, cI aC m_setting 5 stf, cI aC m_price 81 pf, cI aC m_offer 81 oc, cI aC m_buys 9 f_9]) hP hD [0, 1, 2, 3, 4, 5, 6, 7] (by decide) rfl
                  have hP9 := hpd9.1
                  have hD9 := hpd9.2
                  refine W.widen (k := 0) (n := 0) (by omega) (by omega) ?_
                  exact W.vret hx hb hr (fun t ht hW => ⟨⟨(oc, f_9), rfl, hpost, by rw [ht]; exact hP9, va_K.moved hW.alike hK, hD9⟩, hS.F ht⟩) hS.2.2 dX12_findOffer_208
                · have hlt : m9 < n := by
                    rcases Nat.lt_or_ge m9 n with q | q
                    · exact q
                    · exact absurd (nI_le q (by omega)) c_25
                  have hfl := fair_le (cq := cq) (i := i) (n := n) (k := m9 - (i + 1)) (by omega)
                  have hsi := sE_i (cq := cq) (i := i) (c := (cq / (n - i))) (m9 - (i + 1)) (Nat.le_trans (Nat.le_add_right _ _) hfl)
                  have hce : (cq / (n - i)) ≤ sE (KO cq i) i (cq / (n - i)) (m9 - (i + 1)) i := by omega
                  have hsl := sE_le (i := i) (Nat.le_trans (Nat.div_le_self cq (n - i)) hev.2.1) (KO_le (i := i) hev.2.1) (m9 - (i + 1)) i
                  refine lv_aload_n hx hb dX12_findOffer_159 rfl (lv_at hl 0 rfl) ?_
                  refine lv_iload_n hx hb dX12_findOffer_160 rfl (lv_at hl 1 rfl) ?_
                  refine lv_iload_n hx hb dX12_findOffer_161 rfl (lv_at hl 2 rfl) ?_
                  refine lv_aload_n hx hb dX12_findOffer_162 rfl (lv_at hl 0 rfl) ?_
                  refine va_get (D := (dC, dI)) (ci := 12) (v := Value.ref m_setting) (C := RX12) (T := TX12) (N := 33) hx hb hts inX12 hown hK hP 0 rfl rfl 5 (by decide) (hts _ (gw kw_722 rfl)) (fun _ h9 => h9) rfl dX12_findOffer_163 ?_
                  refine lv_iconst (v := 0) hx hb dX12_findOffer_166 (by decide) ?_
                  have h_26 : vp_in 0 5 := by unfold vp_in; decide
                  refine va_iald hx hb hK hP 4 0 rfl rfl h_26 dX12_findOffer_167 ?_
                  refine lv_topi (fun x_27 e_27 => ?_)
                  have h9 : x_27 = nI cq := by rw [e_27]; exact hev.2.2.1
                  subst h9
                  refine lv_aload_n hx hb dX12_findOffer_168 rfl (lv_at hl 0 rfl) ?_
                  refine va_get (D := (dC, dI)) (ci := 12) (v := Value.int (nI n)) (C := RX12) (T := TX12) (N := 33) hx hb hts inX12 hown hK hP 0 rfl rfl 6 (by decide) (hts _ (gw kw_723 rfl)) (fun _ h9 => h9) rfl dX12_findOffer_169 ?_
                  refine lv_iload_n hx hb dX12_findOffer_172 rfl (lv_at hl 1 rfl) ?_
                  refine lv_isub hx hb dX12_findOffer_173 ?_
                  refine lv_topi (fun x_28 e_28 => ?_)
                  have h9 : x_28 = nI (n - i) := by rw [e_28]; exact pk_sub (by omega)
                  subst h9
                  refine lv_idiv hx hb dX12_findOffer_174 (nI_ne0 (by omega) (by omega)) ?_
                  refine lv_topi (fun x_29 e_29 => ?_)
                  have h9 : x_29 = nI (cq / (n - i)) := by rw [e_29]; exact pk_div (by have := hev.2.1; omega) (by omega) (by omega)
                  subst h9
                  have hpd9 := pdf_N (cx := [oX12 g0 m_refused m_kind m_figure m_weight m_got m_setting (nI n) msy mdn m_tape m_letter m_letterAt m_told tp mat stm m_kept him ki crs m_price m_offer m_gets m_yes m_buys m_ends m_carried m_row rm m_keptRow m_likeGets m_likePrice m_ahead, cI aC m_offer 81 oc]) hP hD hS hA [0, 6] (by decide) rfl
                  have hPc := hpd9.1
                  have hDc := hpd9.2.1
                  have hFc := hpd9.2.2
                  clear hpd9
                  refine va_callv (va_runV (As := [Value.int (nI i), Value.int (nI m9), Value.int (nI (cq / (n - i)))]) (rest := []) ⟨hx, hb, hml, hown, hts⟩ (c_X12_offersEach l dC dI aC H.size g0 m_refused m_kind m_figure m_weight m_got m_setting m_tape m_letter m_letterAt m_told m_kept m_price m_offer m_gets m_yes m_buys m_ends m_carried m_row m_keptRow m_likeGets m_likePrice m_ahead msy mdn tp mat stm him ki crs rm n oc i m9 (cq / (n - i)) (sE (KO cq i) i (cq / (n - i)) (m9 - (i + 1)) i) (by omega) (hrow i (by omega)) (⟨hce, hsl⟩)) ⟨(callB_of 3 hts (gG kw_945) rfl rfl rfl (hts _ (gw kw_13 rfl)) (hts _ (gw kw_942 rfl)) hd_X12_offersEach ⟨Nat.le_of_ble_eq_true rfl, Nat.le_of_ble_eq_true rfl⟩), (hts _ (gw kw_944 rfl)), (hts _ (gw ks_55 rfl))⟩ ⟨fb_std, va_recv (q := (RX12, TX12, 33)) hK hPc (ci := 12) (q0 := 0) rfl rfl, pre_std hPc hK hDc hN⟩ rfl rfl hl.1 rfl (lv_room (Nat.le_of_ble_eq_true rfl)) dX12_findOffer_175 ⟨Nat.le_of_ble_eq_true rfl, Nat.le_of_ble_eq_true rfl⟩) hS (fun q _ h => hFc q h) hFc (fun u9 t9 H1 locs ht hvm hw_30 hB hz1 hk1 hS => ?_)
                  obtain ⟨u_31, rfl⟩ : ∃ z, z = u9 := ⟨_, rfl⟩
                  obtain ⟨hP1, hK1, hD1⟩ := hB
                  rw [ht] at hP1
                  clear hK1
                  try dsimp only at hw_30
                  have hpd9 : PDx (dC, dI) classes A H1 [cI aC m_kind 9 kf, cI aC m_figure 9 ff, cI aC m_weight 9 wf, cI aC m_setting 5 stf, cI aC m_price 81 pf, cI aC m_buys 9 f_9, oX12 g0 m_refused m_kind m_figure m_weight m_got m_setting (nI n) msy mdn m_tape m_letter m_letterAt m_told tp mat stm m_kept him ki crs m_price m_offer m_gets m_yes m_buys m_ends m_carried m_row rm m_keptRow m_likeGets m_likePrice m_ahead, cI aC m_offer 81 u_31] := jn_N (wr := [cI aC m_kind 9 kf, cI aC m_figure 9 ff, cI aC m_weight 9 wf, cI aC m_setting 5 stf, cI aC m_price 81 pf, cI aC m_buys 9 f_9]) hFc hk1 hP1 hD1 hP hD [0, 6] [1, 2, 3, 4, 5, 7] rfl rfl (by decide) (by decide)
                  have hP := hpd9.1
                  have hD := hpd9.2
                  clear hpd9
                  generalize H1 = H at hP hS ⊢
                  clear hPc hDc hFc hz1 hk1 hP1 hD1 ht hvm
                  have hb1 : ∀ q, q < n → u_31 (9 * i + q) = nI ((sE (KO cq i) i (cq / (n - i)) (m9 + 1 - (i + 1))) q) := oe_row (j := m9) (by omega) hw_30 rfl hrow (fun q _ => by rw [sE_suc hm9.1]; unfold gv; rw [if_pos hce]; by_cases e : q = i <;> first | (rw [e, if_neg (by omega), if_pos rfl, if_pos rfl]; done) | (rw [if_neg e, if_neg e]))
                  have hb2 := oe_fr (by omega) hw_30 hfr2
                  obtain ⟨x_32, e_32⟩ : ∃ y : Int32, y = (nI m9) + 1 := ⟨_, rfl⟩
                  refine lv_iinc (v := x_32) (lv' := [(2, Value.int x_32), (0, Value.ref g0), (1, Value.int (nI i))]) hx hb dX12_findOffer_178 hl (k := 2) rfl (by rw [e_32]; rfl) (by decide) rfl (fun ls hl => ?_)
                  have h9 : x_32 = nI (m9 + 1) := by rw [e_32, nI_1]
                  subst h9
                  refine lv_goto (tgt := 151) hx hb dX12_findOffer_181 (by decide) ?_
                  exact ih_151 (m9 + 1) u_31 (ms_lt hlt hfu) (by omega) (hb1) (hb2) _ _ _ (hP.sub [6, 0, 1, 2, 3, 4, 7, 5] rfl) (hD.sub [6, 0, 1, 2, 3, 4, 7, 5] (by decide) rfl) hS (lv_sub hl [1, 2, 0] rfl)
            exact lp_151 ((n - (i + 1)) + 1) (i + 1) f_7 (Nat.lt_succ_self _) (by omega) (fun q hq => by rw [Nat.sub_self]; exact hO1 q hq) (hfr1) _ _ _ (hP.sub [0, 1, 2, 3, 4, 5, 6, 7] rfl) (hD.sub [0, 1, 2, 3, 4, 5, 6, 7] (by decide) rfl) hS (lv_sub hl [1, 2, 0] rfl)
        · have hKb : K i = 0 ∨ K i = 1 ∨ K i = 2 ∨ K i = 5 := by
            by_cases q : K i = 0 ∨ K i = 1 ∨ K i = 2 ∨ K i = 5
            · exact q
            · exact absurd (by rw [hz_59, if_neg q]) c_13
          refine lv_aload_n hx hb dX12_findOffer_65 rfl (lv_at hl 0 rfl) ?_
          refine va_get (D := (dC, dI)) (ci := 12) (v := Value.ref m_buys) (C := RX12) (T := TX12) (N := 33) hx hb hts inX12 hown hK hP 0 rfl rfl 24 (by decide) (hts _ (gw kw_741 rfl)) (fun _ h9 => h9) rfl dX12_findOffer_66 ?_
          refine lv_iload_n hx hb dX12_findOffer_69 rfl (lv_at hl 1 rfl) ?_
          refine lv_aload_n hx hb dX12_findOffer_70 rfl (lv_at hl 0 rfl) ?_
          refine lv_iload_n hx hb dX12_findOffer_71 rfl (lv_at hl 1 rfl) ?_
          have hpd9 := pdf_N (cx := [oX12 g0 m_refused m_kind m_figure m_weight m_got m_setting (nI n) msy mdn m_tape m_letter m_letterAt m_told tp mat stm m_kept him ki crs m_price m_offer m_gets m_yes m_buys m_ends m_carried m_row rm m_keptRow m_likeGets m_likePrice m_ahead, cI aC m_weight 9 wf, cI aC m_setting 5 stf, cI aC m_price 81 pf]) hP hD hS hA [0, 3, 4, 5] (by decide) rfl
          have hPc := hpd9.1
          have hDc := hpd9.2.1
          have hFc := hpd9.2.2
          clear hpd9
          refine va_calli (va_runV (As := [Value.int (nI i)]) (rest := [Value.int (nI i), Value.ref m_buys]) ⟨hx, hb, hml, hown, hts⟩ (c_X12_buysBy l dC dI aC H.size g0 m_refused m_kind m_figure m_weight m_got m_setting m_tape m_letter m_letterAt m_told m_kept m_price m_offer m_gets m_yes m_buys m_ends m_carried m_row m_keptRow m_likeGets m_likePrice m_ahead msy mdn tp mat stm him ki crs rm n wf stf pf W0 (zP pl i) cq i (HW_of hev) (⟨hin, hn8⟩) (fun q h1 h2 => ⟨hPq q h1 h2, zP_le hpl (HF_of hev) h1 h2⟩) (⟨hev.2.2.1, hev.2.1⟩)) ⟨(callB_of 1 hts (gG kw_918) rfl rfl rfl (hts _ (gw kw_13 rfl)) (hts _ (gw kw_915 rfl)) hd_X12_buysBy ⟨Nat.le_of_ble_eq_true rfl, Nat.le_of_ble_eq_true rfl⟩), (hts _ (gw kw_917 rfl)), (hts _ (gw ks_49 rfl))⟩ ⟨fb_std, va_recv (q := (RX12, TX12, 33)) hK hPc (ci := 12) (q0 := 0) rfl rfl, pre_std hPc hK hDc hN⟩ rfl rfl hl.1 rfl (lv_room (Nat.le_of_ble_eq_true rfl)) dX12_findOffer_72 ⟨Nat.le_of_ble_eq_true rfl, Nat.le_of_ble_eq_true rfl⟩) hS (fun q _ h => hFc q h) hFc (fun x_33 u9 t9 H1 locs ht hvm hw_33 hB hz1 hk1 hS => ?_)
          obtain ⟨hP1, hK1, hD1⟩ := hB
          rw [ht] at hP1
          clear hK1
          try dsimp only at hw_33
          have hpd9 : PDx (dC, dI) classes A H1 [cI aC m_kind 9 kf, cI aC m_figure 9 ff, cI aC m_offer 81 f_7, cI aC m_buys 9 f_9, oX12 g0 m_refused m_kind m_figure m_weight m_got m_setting (nI n) msy mdn m_tape m_letter m_letterAt m_told tp mat stm m_kept him ki crs m_price m_offer m_gets m_yes m_buys m_ends m_carried m_row rm m_keptRow m_likeGets m_likePrice m_ahead, cI aC m_weight 9 wf, cI aC m_setting 5 stf, cI aC m_price 81 pf] := jn_N (wr := [cI aC m_kind 9 kf, cI aC m_figure 9 ff, cI aC m_offer 81 f_7, cI aC m_buys 9 f_9]) hFc hk1 hP1 hD1 hP hD [0, 3, 4, 5] [1, 2, 6, 7] rfl rfl (by decide) (by decide)
          have hP := hpd9.1
          have hD := hpd9.2
          clear hpd9
          generalize H1 = H at hP hS ⊢
          clear hPc hDc hFc hz1 hk1 hP1 hD1 ht hvm
          have hz_72 := hw_33
          have h_34 : vp_in (nI i) 9 := by first | exact vp_in_nI (by omega) (by omega) | (unfold vp_in; decide) | (subst_vars; first | (unfold vp_in; decide) | exact vp_in_nI (by omega) (by omega))
          refine va_iast hx hb hK hP hD hS 3 0 rfl rfl h_34 dX12_findOffer_75 (fun H locs hP hD hS => ?_)
          obtain ⟨f_35, e_f_35⟩ : ∃ y : Nat → Int32, y = upd f_9 (nI i : Int32).toNatClampNeg x_33 := ⟨_, rfl⟩
          have hpd9 : PDx (dC, dI) classes A H [cI aC m_kind 9 kf, cI aC m_figure 9 ff, cI aC m_offer 81 f_7, cI aC m_buys 9 f_35, oX12 g0 m_refused m_kind m_figure m_weight m_got m_setting (nI n) msy mdn m_tape m_letter m_letterAt m_told tp mat stm m_kept him ki crs m_price m_offer m_gets m_yes m_buys m_ends m_carried m_row rm m_keptRow m_likeGets m_likePrice m_ahead, cI aC m_weight 9 wf, cI aC m_setting 5 stf, cI aC m_price 81 pf] := by rw [e_f_35]; exact ⟨hP, hD⟩
          have hP := hpd9.1
          have hD := hpd9.2
          clear hpd9
          obtain ⟨s9, hbuy, hsr⟩ := by_split hin hn8 hz_72
          have hri : f_35 i = x_33 := by rw [e_f_35, nI_clamp (by omega), pk_us]
          have hro : ∀ q, q ≠ i → f_35 q = bf q := fun q h => by rw [e_f_35, nI_clamp (by omega), pk_un h]; exact hbo q h
          refine lv_iload_n hx hb dX12_findOffer_76 rfl (lv_at hl 1 rfl) ?_
          refine lv_iconst (v := 1) hx hb dX12_findOffer_77 (by decide) ?_
          refine lv_iadd hx hb dX12_findOffer_78 ?_
          refine lv_topi (fun x_36 e_36 => ?_)
          refine lv_istore_n (lv' := [(2, Value.int x_36), (0, Value.ref g0), (1, Value.int (nI i))]) hx hb dX12_findOffer_79 rfl hl (by decide) rfl (fun ls hl => ?_)
          have h9 : x_36 = nI (i + 1) := by rw [e_36, nI_1]
          subst h9
          have lp_80 : ∀ (fu : Nat) (m9 : Nat) (oc : Nat → Int32) (hfu : n - m9 < fu) (hm9 : i < m9 ∧ m9 ≤ n) (hrow : ∀ q, q < n → oc (9 * i + q) = nI ((BO cq i (zP pl i) s9 m9) q)) (hfr2 : ∀ k, k < 9 * i ∨ 9 * i + 9 ≤ k → oc k = of k) (H : Heap) (locs : List Loc) (ls : Array Slot), va_P (dC, dI) classes [cI aC m_kind 9 kf, cI aC m_figure 9 ff, cI aC m_offer 81 oc, cI aC m_buys 9 f_35, oX12 g0 m_refused m_kind m_figure m_weight m_got m_setting (nI n) msy mdn m_tape m_letter m_letterAt m_told tp mat stm m_kept him ki crs m_price m_offer m_gets m_yes m_buys m_ends m_carried m_row rm m_keptRow m_likeGets m_likePrice m_ahead, cI aC m_weight 9 wf, cI aC m_setting 5 stf, cI aC m_price 81 pf] H → va_D A [cI aC m_kind 9 kf, cI aC m_figure 9 ff, cI aC m_offer 81 oc, cI aC m_buys 9 f_35, oX12 g0 m_refused m_kind m_figure m_weight m_got m_setting (nI n) msy mdn m_tape m_letter m_letterAt m_told tp mat stm m_kept him ki crs m_price m_offer m_gets m_yes m_buys m_ends m_carried m_row rm m_keptRow m_likeGets m_likePrice m_ahead, cI aC m_weight 9 wf, cI aC m_setting 5 stf, cI aC m_price 81 pf] → va_S A s.heap H locs → lv_has ls 3 [(0, Value.ref g0), (1, Value.int (nI i)), (2, Value.int (nI m9))] → W p l e (headSpec (wW yX12_findOffer cX12_findOffer 3 (none : Option FieldType)) ({ frames := 2, cells := 0, slots := 0, locals := 50 } : Room)).room s m ([Value.ref g0, Value.int (nI i)] : List Value).toArray below meth c H locs 0 0 (MQ below (va_Qv (fun (u : (Nat → Int32) × (Nat → Int32)) => match u with | (of2, bf2) => (∀ q, q < n → of2 (9 * i + q) = nI ((zO pl i) q)) ∧ bf2 i = zB pl i ∧ (∀ k, k < 9 * i ∨ 9 * i + 9 ≤ k → of2 k = of k) ∧ ∀ q, q ≠ i → bf2 q = bf q) (fun (u : (Nat → Int32) × (Nat → Int32)) (t : State) => match u with | (of2, bf2) => va_P (dC, dI) classes [oX12 g0 m_refused m_kind m_figure m_weight m_got m_setting (nI n) msy mdn m_tape m_letter m_letterAt m_told tp mat stm m_kept him ki crs m_price m_offer m_gets m_yes m_buys m_ends m_carried m_row rm m_keptRow m_likeGets m_likePrice m_ahead, cI aC m_kind 9 kf, cI aC m_figure 9 ff, cI aC m_weight 9 wf, cI aC m_setting 5 stf, cI aC m_price 81 pf, cI aC m_offer 81 of2, cI aC m_buys 9 bf2] t.heap ∧ va_K (dC, dI) classes (TY aC) t ∧ va_D A [oX12 g0 m_refused m_kind m_figure m_weight m_got m_setting (nI n) msy mdn m_tape m_letter m_letterAt m_told tp mat stm m_kept him ki crs m_price m_offer m_gets m_yes m_buys m_ends m_carried m_row rm m_keptRow m_likeGets m_likePrice m_ahead, cI aC m_kind 9 kf, cI aC m_figure 9 ff, cI aC m_weight 9 wf, cI aC m_setting 5 stf, cI aC m_price 81 pf, cI aC m_offer 81 of2, cI aC m_buys 9 bf2]) A) ([Value.ref g0, Value.int (nI i)] : List Value).toArray s 0 0 A) (F0 m 80 ls []) := by
            intro fu
            induction fu with
            | zero => intro m9 oc hfu; exact absurd hfu (Nat.not_lt_zero _)
            | succ fu ih_80 =>
              intro m9 oc hfu hm9 hrow hfr2 H locs ls hP hD hS hl
              refine lv_iload_n hx hb dX12_findOffer_80 rfl (lv_at hl 2 rfl) ?_
              refine lv_aload_n hx hb dX12_findOffer_81 rfl (lv_at hl 0 rfl) ?_
              refine va_get (D := (dC, dI)) (ci := 12) (v := Value.int (nI n)) (C := RX12) (T := TX12) (N := 33) hx hb hts inX12 hown hK hP 4 rfl rfl 6 (by decide) (hts _ (gw kw_723 rfl)) (fun _ h9 => h9) rfl dX12_findOffer_82 ?_
              refine lv_icmp_ge (tgt := 134) hx hb dX12_findOffer_85 (by decide) (fun c_37 => ?_) (fun c_37 => ?_)
              · have hmn : m9 = n := by
                  rcases Nat.lt_or_ge m9 n with q | q
                  · exact absurd c_37 (nI_ge q (by omega))
                  · omega
                have hrw : ∀ q, q < n → oc (9 * i + q) = nI ((BO cq i (zP pl i) s9 n) q) := fun q hq => by rw [hrow q hq, hmn]
                have hfin9 := or_fin hpl hin hn8 hkle (of_by hKb hbuy) hrw
                rw [← hri] at hfin9
                have hpost : (∀ q, q < n → oc (9 * i + q) = nI ((zO pl i) q)) ∧ f_35 i = zB pl i ∧ (∀ k, k < 9 * i ∨ 9 * i + 9 ≤ k → oc k = of k) ∧ ∀ q, q ≠ i → f_35 q = bf q := ⟨hfin9.1, hfin9.2, hfr2, hro⟩
                refine lv_goto (tgt := 208) hx hb dX12_findOffer_134 (by decide) ?_
                have hpd9 := pd_N (cx := [oX12 g0 m_refused m_kind m_figure m_weight m_got m_setting (nI n) msy mdn m_tape m_letter m_letterAt m_told tp mat stm m_kept him ki crs m_price m_offer m_gets m_yes m_buys m_ends m_carried m_row rm m_keptRow m_likeGets m_likePrice m_ahead, cI aC m_kind 9 kf, cI aC m_figure 9 ff, cI aC m_weight 9 wf, cI aC m_setting 5 stf, cI aC m_price 81 pf, cI aC m_offer 81 oc, cI aC m_buys 9 f_35]) hP hD [4, 0, 1, 5, 6, 7, 2, 3] (by decide) rfl
                have hP9 := hpd9.1
                have hD9 := hpd9.2
                refine W.widen (k := 0) (n := 0) (by omega) (by omega) ?_
                exact W.vret hx hb hr (fun t ht hW => ⟨⟨(oc, f_35), rfl, hpost, by rw [ht]; exact hP9, va_K.moved hW.alike hK, hD9⟩, hS.F ht⟩) hS.2.2 dX12_findOffer_208
              · have hlt : m9 < n := by
                  rcases Nat.lt_or_ge m9 n with q | q
                  · exact q
                  · exact absurd (nI_le q (by omega)) c_37
                refine lv_aload_n hx hb dX12_findOffer_88 rfl (lv_at hl 0 rfl) ?_
                refine va_get (D := (dC, dI)) (ci := 12) (v := Value.ref m_buys) (C := RX12) (T := TX12) (N := 33) hx hb hts inX12 hown hK hP 4 rfl rfl 24 (by decide) (hts _ (gw kw_741 rfl)) (fun _ h9 => h9) rfl dX12_findOffer_89 ?_
                refine lv_iload_n hx hb dX12_findOffer_92 rfl (lv_at hl 1 rfl) ?_
                have h_38 : vp_in (nI i) 9 := by first | exact vp_in_nI (by omega) (by omega) | (unfold vp_in; decide) | (subst_vars; first | (unfold vp_in; decide) | exact vp_in_nI (by omega) (by omega))
                refine va_iald hx hb hK hP 3 0 rfl rfl h_38 dX12_findOffer_93 ?_
                refine lv_topi (fun x_39 e_39 => ?_)
                have h9 : x_33 = x_39 := Eq.symm (show x_39 = x_33 from by rw [e_39, nI_clamp (by omega)]; exact hri)
                subst h9
                refine lv_if_lt (tgt := 134) hx hb dX12_findOffer_94 (by decide) (fun c_40 => ?_) (fun c_40 => ?_)
                · have hs0 : s9 = 0 := (hsr.resolve_right (fun h => absurd c_40 (by rw [h.1]; have := p28 hn8; exact nI_pos (by omega)))).2
                  have hrw : ∀ q, q < n → oc (9 * i + q) = nI ((BO cq i (zP pl i) s9 n) q) := fun q hq => by rw [hrow q hq, hs0, BO_z, BO_z]
                  have hfin9 := or_fin hpl hin hn8 hkle (of_by hKb hbuy) hrw
                  rw [← hri] at hfin9
                  have hpost : (∀ q, q < n → oc (9 * i + q) = nI ((zO pl i) q)) ∧ f_35 i = zB pl i ∧ (∀ k, k < 9 * i ∨ 9 * i + 9 ≤ k → oc k = of k) ∧ ∀ q, q ≠ i → f_35 q = bf q := ⟨hfin9.1, hfin9.2, hfr2, hro⟩
                  refine lv_goto (tgt := 208) hx hb dX12_findOffer_134 (by decide) ?_
                  have hpd9 := pd_N (cx := [oX12 g0 m_refused m_kind m_figure m_weight m_got m_setting (nI n) msy mdn m_tape m_letter m_letterAt m_told tp mat stm m_kept him ki crs m_price m_offer m_gets m_yes m_buys m_ends m_carried m_row rm m_keptRow m_likeGets m_likePrice m_ahead, cI aC m_kind 9 kf, cI aC m_figure 9 ff, cI aC m_weight 9 wf, cI aC m_setting 5 stf, cI aC m_price 81 pf, cI aC m_offer 81 oc, cI aC m_buys 9 f_35]) hP hD [4, 0, 1, 5, 6, 7, 2, 3] (by decide) rfl
                  have hP9 := hpd9.1
                  have hD9 := hpd9.2
                  refine W.widen (k := 0) (n := 0) (by omega) (by omega) ?_
                  exact W.vret hx hb hr (fun t ht hW => ⟨⟨(oc, f_35), rfl, hpost, by rw [ht]; exact hP9, va_K.moved hW.alike hK, hD9⟩, hS.F ht⟩) hS.2.2 dX12_findOffer_208
                · obtain ⟨hs1, hs2, hs3, hs4⟩ := hsr.resolve_left (fun h => c_40 (by rw [h.1]; decide))
                  refine lv_aload_n hx hb dX12_findOffer_97 rfl (lv_at hl 0 rfl) ?_
                  refine va_get (D := (dC, dI)) (ci := 12) (v := Value.ref m_buys) (C := RX12) (T := TX12) (N := 33) hx hb hts inX12 hown hK hP 4 rfl rfl 24 (by decide) (hts _ (gw kw_741 rfl)) (fun _ h9 => h9) rfl dX12_findOffer_98 ?_
                  refine lv_iload_n hx hb dX12_findOffer_101 rfl (lv_at hl 1 rfl) ?_
                  have h_41 : vp_in (nI i) 9 := by first | exact vp_in_nI (by omega) (by omega) | (unfold vp_in; decide) | (subst_vars; first | (unfold vp_in; decide) | exact vp_in_nI (by omega) (by omega))
                  refine va_iald hx hb hK hP 3 0 rfl rfl h_41 dX12_findOffer_102 ?_
                  refine lv_topi (fun x_42 e_42 => ?_)
                  have h9 : x_33 = x_42 := Eq.symm (show x_42 = x_33 from by rw [e_42, nI_clamp (by omega)]; exact hri)
                  subst h9
                  refine lv_iload_n hx hb dX12_findOffer_103 rfl (lv_at hl 2 rfl) ?_
                  refine lv_ishr hx hb dX12_findOffer_104 ?_
                  refine lv_topi (fun x_43 e_43 => ?_)
                  refine lv_iconst (v := 1) hx hb dX12_findOffer_105 (by decide) ?_
                  refine lv_iand hx hb dX12_findOffer_106 ?_
                  refine lv_topi (fun x_44 e_44 => ?_)
                  refine lv_iconst (v := 1) hx hb dX12_findOffer_107 (by decide) ?_
                  refine lv_icmp_ne (tgt := 128) hx hb dX12_findOffer_108 (by decide) (fun c_45 => ?_) (fun c_45 => ?_)
                  · have hbt : s9.testBit m9 = false := by rw [← bt_of hn8 hs2 hlt hs1]; exact Bool.eq_false_iff.mpr (fun q => c_45 (by rw [e_44, e_43]; exact (b_tst (by omega)).mpr q))
                    have hb1 : ∀ q, q < n → oc (9 * i + q) = nI ((BO cq i (zP pl i) s9 (m9 + 1)) q) := fun q hq => by rw [BO_n hm9.1 hbt]; exact hrow q hq
                    have hb2 := hfr2
                    obtain ⟨x_46, e_46⟩ : ∃ y : Int32, y = (nI m9) + 1 := ⟨_, rfl⟩
                    refine lv_iinc (v := x_46) (lv' := [(2, Value.int x_46), (0, Value.ref g0), (1, Value.int (nI i))]) hx hb dX12_findOffer_128 hl (k := 2) rfl (by rw [e_46]; rfl) (by decide) rfl (fun ls hl => ?_)
                    have h9 : x_46 = nI (m9 + 1) := by rw [e_46, nI_1]
                    subst h9
                    refine lv_goto (tgt := 80) hx hb dX12_findOffer_131 (by decide) ?_
                    exact ih_80 (m9 + 1) oc (ms_lt hlt hfu) (by omega) (hb1) (hb2) _ _ _ (hP.sub [0, 1, 2, 3, 4, 5, 6, 7] rfl) (hD.sub [0, 1, 2, 3, 4, 5, 6, 7] (by decide) rfl) hS (lv_sub hl [1, 2, 0] rfl)
                  · have hbt : s9.testBit m9 = true := by rw [← bt_of hn8 hs2 hlt hs1]; exact (b_tst (by omega)).mp (by rw [← e_43, ← e_44]; exact c_45)
                    have hle := BO_le ⟨hm9.1, hlt⟩ hbt hs4
                    have hl9 := BO_9 (i := i) (Pq := zP pl i) (s := s9) (m := m9) hev.2.1
                    refine lv_aload_n hx hb dX12_findOffer_111 rfl (lv_at hl 0 rfl) ?_
                    refine lv_iload_n hx hb dX12_findOffer_112 rfl (lv_at hl 1 rfl) ?_
                    refine lv_iload_n hx hb dX12_findOffer_113 rfl (lv_at hl 2 rfl) ?_
                    refine lv_aload_n hx hb dX12_findOffer_114 rfl (lv_at hl 0 rfl) ?_
                    refine va_get (D := (dC, dI)) (ci := 12) (v := Value.ref m_price) (C := RX12) (T := TX12) (N := 33) hx hb hts inX12 hown hK hP 4 rfl rfl 20 (by decide) (hts _ (gw kw_737 rfl)) (fun _ h9 => h9) rfl dX12_findOffer_115 ?_
                    refine lv_bipush (v := 9) hx hb dX12_findOffer_118 (by decide) ?_
                    refine lv_iload_n hx hb dX12_findOffer_120 rfl (lv_at hl 1 rfl) ?_
                    refine lv_imul hx hb dX12_findOffer_121 ?_
                    refine lv_topi (fun x_47 e_47 => ?_)
                    have h9 : x_47 = nI (9 * i) := by rw [e_47]; exact pk_mul 9 i
                    subst h9
                    refine lv_iload_n hx hb dX12_findOffer_122 rfl (lv_at hl 2 rfl) ?_
                    refine lv_iadd hx hb dX12_findOffer_123 ?_
                    refine lv_topi (fun x_48 e_48 => ?_)
                    have h9 : x_48 = nI (9 * i + m9) := by rw [e_48, nI_add]
                    subst h9
                    have h_49 : vp_in (nI (9 * i + m9)) 81 := by first | exact vp_in_nI (by omega) (by omega) | (unfold vp_in; decide) | (subst_vars; first | (unfold vp_in; decide) | exact vp_in_nI (by omega) (by omega))
                    refine va_iald hx hb hK hP 7 0 rfl rfl h_49 dX12_findOffer_124 ?_
                    refine lv_topi (fun x_50 e_50 => ?_)
                    have h9 : x_50 = nI (zP pl i m9) := by rw [e_50, nI_clamp (by omega)]; exact hPq m9 hm9.1 hlt
                    subst h9
                    have hpd9 := pdf_N (cx := [oX12 g0 m_refused m_kind m_figure m_weight m_got m_setting (nI n) msy mdn m_tape m_letter m_letterAt m_told tp mat stm m_kept him ki crs m_price m_offer m_gets m_yes m_buys m_ends m_carried m_row rm m_keptRow m_likeGets m_likePrice m_ahead, cI aC m_offer 81 oc]) hP hD hS hA [4, 2] (by decide) rfl
                    have hPc := hpd9.1
                    have hDc := hpd9.2.1
                    have hFc := hpd9.2.2
                    clear hpd9
                    refine va_callv (va_runV (As := [Value.int (nI i), Value.int (nI m9), Value.int (nI (zP pl i m9))]) (rest := []) ⟨hx, hb, hml, hown, hts⟩ (c_X12_offersEach l dC dI aC H.size g0 m_refused m_kind m_figure m_weight m_got m_setting m_tape m_letter m_letterAt m_told m_kept m_price m_offer m_gets m_yes m_buys m_ends m_carried m_row m_keptRow m_likeGets m_likePrice m_ahead msy mdn tp mat stm him ki crs rm n oc i m9 (zP pl i m9) (BO cq i (zP pl i) s9 m9 i) (by omega) (hrow i (by omega)) (⟨hle, hl9⟩)) ⟨(callB_of 3 hts (gG kw_945) rfl rfl rfl (hts _ (gw kw_13 rfl)) (hts _ (gw kw_942 rfl)) hd_X12_offersEach ⟨Nat.le_of_ble_eq_true rfl, Nat.le_of_ble_eq_true rfl⟩), (hts _ (gw kw_944 rfl)), (hts _ (gw ks_55 rfl))⟩ ⟨fb_std, va_recv (q := (RX12, TX12, 33)) hK hPc (ci := 12) (q0 := 0) rfl rfl, pre_std hPc hK hDc hN⟩ rfl rfl hl.1 rfl (lv_room (Nat.le_of_ble_eq_true rfl)) dX12_findOffer_125 ⟨Nat.le_of_ble_eq_true rfl, Nat.le_of_ble_eq_true rfl⟩) hS (fun q _ h => hFc q h) hFc (fun u9 t9 H1 locs ht hvm hw_51 hB hz1 hk1 hS => ?_)
                    obtain ⟨u_52, rfl⟩ : ∃ z, z = u9 := ⟨_, rfl⟩
                    obtain ⟨hP1, hK1, hD1⟩ := hB
                    rw [ht] at hP1
                    clear hK1
                    try dsimp only at hw_51
                    have hpd9 : PDx (dC, dI) classes A H1 [cI aC m_kind 9 kf, cI aC m_figure 9 ff, cI aC m_buys 9 f_35, cI aC m_weight 9 wf, cI aC m_setting 5 stf, cI aC m_price 81 pf, oX12 g0 m_refused m_kind m_figure m_weight m_got m_setting (nI n) msy mdn m_tape m_letter m_letterAt m_told tp mat stm m_kept him ki crs m_price m_offer m_gets m_yes m_buys m_ends m_carried m_row rm m_keptRow m_likeGets m_likePrice m_ahead, cI aC m_offer 81 u_52] := jn_N (wr := [cI aC m_kind 9 kf, cI aC m_figure 9 ff, cI aC m_buys 9 f_35, cI aC m_weight 9 wf, cI aC m_setting 5 stf, cI aC m_price 81 pf]) hFc hk1 hP1 hD1 hP hD [4, 2] [0, 1, 3, 5, 6, 7] rfl rfl (by decide) (by decide)
                    have hP := hpd9.1
                    have hD := hpd9.2
                    clear hpd9
                    generalize H1 = H at hP hS ⊢
                    clear hPc hDc hFc hz1 hk1 hP1 hD1 ht hvm
                    have hb1 : ∀ q, q < n → u_52 (9 * i + q) = nI ((BO cq i (zP pl i) s9 (m9 + 1)) q) := oe_row (j := m9) (by omega) hw_51 rfl hrow (fun q _ => BO_y hm9.1 hbt)
                    have hb2 := oe_fr (by omega) hw_51 hfr2
                    obtain ⟨x_53, e_53⟩ : ∃ y : Int32, y = (nI m9) + 1 := ⟨_, rfl⟩
                    refine lv_iinc (v := x_53) (lv' := [(2, Value.int x_53), (0, Value.ref g0), (1, Value.int (nI i))]) hx hb dX12_findOffer_128 hl (k := 2) rfl (by rw [e_53]; rfl) (by decide) rfl (fun ls hl => ?_)
                    have h9 : x_53 = nI (m9 + 1) := by rw [e_53, nI_1]
                    subst h9
                    refine lv_goto (tgt := 80) hx hb dX12_findOffer_131 (by decide) ?_
                    exact ih_80 (m9 + 1) u_52 (ms_lt hlt hfu) (by omega) (hb1) (hb2) _ _ _ (hP.sub [0, 1, 7, 2, 6, 3, 4, 5] rfl) (hD.sub [0, 1, 7, 2, 6, 3, 4, 5] (by decide) rfl) hS (lv_sub hl [1, 2, 0] rfl)
          exact lp_80 ((n - (i + 1)) + 1) (i + 1) f_7 (Nat.lt_succ_self _) (by omega) (fun q hq => by rw [BO_0]; exact hO1 q hq) (hfr1) _ _ _ (hP.sub [0, 1, 2, 3, 4, 5, 6, 7] rfl) (hD.sub [0, 1, 2, 3, 4, 5, 6, 7] (by decide) rfl) hS (lv_sub hl [1, 2, 0] rfl)
      · have hlt : m9 < n := by
          rcases Nat.lt_or_ge m9 n with q | q
          · exact q
          · exact absurd (nI_le q (by omega)) c_1
        refine lv_aload_n hx hb dX12_findOffer_10 rfl (lv_at hl 0 rfl) ?_
        refine va_get (D := (dC, dI)) (ci := 12) (v := Value.ref m_offer) (C := RX12) (T := TX12) (N := 33) hx hb hts inX12 hown hK hP 0 rfl rfl 21 (by decide) (hts _ (gw kw_738 rfl)) (fun _ h9 => h9) rfl dX12_findOffer_11 ?_
        refine lv_bipush (v := 9) hx hb dX12_findOffer_14 (by decide) ?_
        refine lv_iload_n hx hb dX12_findOffer_16 rfl (lv_at hl 1 rfl) ?_
        refine lv_imul hx hb dX12_findOffer_17 ?_
        refine lv_topi (fun x_54 e_54 => ?_)
        have h9 : x_54 = nI (9 * i) := by rw [e_54]; exact pk_mul 9 i
        subst h9
        refine lv_iload_n hx hb dX12_findOffer_18 rfl (lv_at hl 2 rfl) ?_
        refine lv_iadd hx hb dX12_findOffer_19 ?_
        refine lv_topi (fun x_55 e_55 => ?_)
        have h9 : x_55 = nI (9 * i + m9) := by rw [e_55, nI_add]
        subst h9
        refine lv_iconst (v := 0) hx hb dX12_findOffer_20 (by decide) ?_
        have h_56 : vp_in (nI (9 * i + m9)) 81 := by first | exact vp_in_nI (by omega) (by omega) | (unfold vp_in; decide) | (subst_vars; first | (unfold vp_in; decide) | exact vp_in_nI (by omega) (by omega))
        refine va_iast hx hb hK hP hD hS 6 0 rfl rfl h_56 dX12_findOffer_21 (fun H locs hP hD hS => ?_)
        obtain ⟨f_57, e_f_57⟩ : ∃ y : Nat → Int32, y = upd oc (nI (9 * i + m9) : Int32).toNatClampNeg 0 := ⟨_, rfl⟩
        have hpd9 : PDx (dC, dI) classes A H [oX12 g0 m_refused m_kind m_figure m_weight m_got m_setting (nI n) msy mdn m_tape m_letter m_letterAt m_told tp mat stm m_kept him ki crs m_price m_offer m_gets m_yes m_buys m_ends m_carried m_row rm m_keptRow m_likeGets m_likePrice m_ahead, cI aC m_kind 9 kf, cI aC m_figure 9 ff, cI aC m_weight 9 wf, cI aC m_setting 5 stf, cI aC m_price 81 pf, cI aC m_offer 81 f_57, cI aC m_buys 9 bf] := by rw [e_f_57]; exact ⟨hP, hD⟩
        have hP := hpd9.1
        have hD := hpd9.2
        clear hpd9
        obtain ⟨x_58, e_58⟩ : ∃ y : Int32, y = (nI m9) + 1 := ⟨_, rfl⟩
        refine lv_iinc (v := x_58) (lv' := [(2, Value.int x_58), (0, Value.ref g0), (1, Value.int (nI i))]) hx hb dX12_findOffer_22 hl (k := 2) rfl (by rw [e_58]; rfl) (by decide) rfl (fun ls hl => ?_)
        have h9 : x_58 = nI (m9 + 1) := by rw [e_58, nI_1]
        subst h9
        refine lv_goto (tgt := 2) hx hb dX12_findOffer_25 (by decide) ?_
        exact ih_2 (m9 + 1) f_57 (ms_lt hlt hfu) (by omega) (fun q hq => by rw [e_f_57, nI_clamp (by omega)]; by_cases e : q = m9 <;> first | (rw [e, pk_us]; rfl) | (rw [pk_un (by omega)]; exact hz q (by omega))) (fun k hk => by rw [e_f_57, nI_clamp (by omega), pk_un (by omega)]; exact hfr k hk) _ _ _ (hP.sub [0, 1, 2, 3, 4, 5, 6, 7] rfl) (hD.sub [0, 1, 2, 3, 4, 5, 6, 7] (by decide) rfl) hS (lv_sub hl [1, 2, 0] rfl)
  exact lp_2 ((n - 0) + 1) 0 of (Nat.lt_succ_self _) (Nat.zero_le _) (fun q h => by omega) (fun k _ => rfl) _ _ _ (hP.sub [0, 1, 2, 3, 4, 5, 6, 7] rfl) (hD.sub [0, 1, 2, 3, 4, 5, 6, 7] (by decide) rfl) hS (lv_sub hl [1, 2, 0] rfl)
