section
/-! 51.ref3 -/
theorem bt_of {n : Nat} {s m : Nat} {x : Int32} (hn : n ≤ 8) (hs : s < 2 ^ n) (hm : m < n) (h : x = nI s) : bt x m = s.testBit m := by
  have := p28 hn
  rw [h]
  exact b_get (by omega) (by omega)
/-- what the reference's arrays hold of man i's plan -/
def MMT (n : Nat) (W : Nat → Nat) (law : Int32) (pl : PLT) (pf of gf yf bf ef cf : Nat → Int32) (i : Nat) : Prop :=
  (∀ q, i < q → q < n → pf (9 * i + q) = nI (zP pl i q)) ∧ (∀ q, q < n → of (9 * i + q) = nI (zO pl i q)) ∧ (∀ q, i ≤ q → q < n → gf (9 * i + q) = iI (zS pl i q)) ∧ yf i = zY pl i ∧ bf i = zB pl i ∧ ef i = zE pl i ∧ ((CNDs n W law i (zY pl i) → cf i = 1) ∧ (¬ CNDs n W law i (zY pl i) → cf i = 0))
theorem cnd_iff {n : Nat} {W : Nat → Nat} {law : Int32} {i : Nat} {Y : Int32} (hi : i < n) (hn : n ≤ 8) (hW : ∀ j, j < n → 1 ≤ W j) (hY : ∀ b, b < 32 → bt Y b = true → i ≤ b) (hYi : bt Y i = true) : CNDs n W law i Y ↔ nd law (sumr W i (n - i)) ≤ yw W Y 0 n := by
  rw [yw_from (i := i) (n := n) (by omega) (fun q hq => Bool.eq_false_iff.mpr (fun z => by have := hY q (by omega) z; omega))]
  unfold CNDs
  constructor
  · rintro (h | h)
    · have e : n - i = 1 := by omega
      rw [e]
      show nd law (0 + W (i + 0)) ≤ 0 + (if bt Y (i + 0) = true then W (i + 0) else 0)
      rw [Nat.add_zero, hYi, if_pos rfl, Nat.zero_add]
      exact nd_le (hW i hi)
    · exact h
  · exact Or.inr

set_option maxHeartbeats 1000000 in
set_option maxRecDepth 100000 in
/-- X12_doesBuy -/
theorem c_X12_doesBuy (l : Launch) (dC : Nat → ClassId) (dI : Nat → Nat → Nat) (aC : Nat → ClassId) (sz : Nat) (kk : Nat) (hkk : kk ≤ 6) : Met l yX12_doesBuy (wW yX12_doesBuy cX12_doesBuy 1 (some .boolean)) ({ frames := 0, cells := 0, slots := 0, locals := 0 } : Room) (va_Pc [Value.int (nI kk)] (fun U => U.heap.size = sz ∧ va_P (dC, dI) classes [] U.heap ∧ va_K (dC, dI) classes (TY aC) U ∧ va_D (fun _ => True) [] ∧ NX U)) (va_Qi (fun (r : Int32) (_ : Unit) => r = if (kk = 0 ∨ kk = 1 ∨ kk = 2 ∨ kk = 5) then 1 else 0) (fun (_ : Unit) (t : State) => va_P (dC, dI) classes [] t.heap ∧ va_K (dC, dI) classes (TY aC) t ∧ va_D (va_A [] sz) []) (va_A [] sz)) 0 0 (va_A [] sz) := by
  refine Met.ofW (cc := cX12_doesBuy) (maxL := 1) (ret := (some .boolean)) (by decide) rfl ?_
  intro p e s m args below meth c s₁ B hml hv
  obtain ⟨rfl, hsz, hP, hK, hD0, hN⟩ := hv
  have hx := B.exec
  have hb := B.bytes
  have hr := B.returns
  have hts0 := atoms_spec (ws := (wW yX12_doesBuy cX12_doesBuy 1 (some .boolean))) B.pre
  have hts : ∀ w9 ∈ lw_G, w9.before ([Value.int (nI kk)] : List Value).toArray s = true := fun w9 h9 => hts0 w9 (List.mem_cons_of_mem _ h9)
  have hown : s.vm.findClass RX12 = some m.cls := findClass_of_methodNamed (x := yX12_doesBuy) B.named
  have hlocks := B.notSynchronized
  subst hsz
  have hD := hD0.self (sz := s.heap.size)
  generalize hAe : va_A [] s.heap.size = A at hD ⊢
  have hA : ∀ q : Nat, s.heap.size ≤ q → A q := fun q h => by rw [← hAe]; exact Or.inr h
  obtain ⟨H, hHe⟩ : ∃ H : Heap, H = s.heap := ⟨_, rfl⟩
  have hS : va_S A s.heap H [] := by rw [hHe]; exact va_S.rf
  have hP : va_P (dC, dI) classes [] H := by rw [hHe]; exact hP
  have hl := lv_entry ([Value.int (nI kk)]) (n := 1) (Nat.le_of_ble_eq_true rfl)
  rw [lg_entry_eq]
  generalize (lg_sl ([Value.int (nI kk)]) ++ List.replicate (1 - (lg_sl ([Value.int (nI kk)])).length) Slot.unset).toArray = ls at hl ⊢
  have hl : lv_has ls 1 [(0, Value.int (nI kk))] := hl
  rw [← hHe]
  refine lv_iload_n hx hb dX12_doesBuy_0 rfl (lv_at hl 0 rfl) ?_
  refine lv_iconst (v := 3) hx hb dX12_doesBuy_1 (by decide) ?_
  refine lv_icmp_lt (tgt := 10) hx hb dX12_doesBuy_2 (by decide) (fun c_1 => ?_) (fun c_1 => ?_)
  · refine lv_iconst (v := 1) hx hb dX12_doesBuy_10 (by decide) ?_
    refine lv_goto (tgt := 15) hx hb dX12_doesBuy_11 (by decide) ?_
    have hpd9 := pd_N (cx := []) hP hD [] (by decide) rfl
    have hP9 := hpd9.1
    have hD9 := hpd9.2
    refine W.widen (k := 0) (n := 0) (by omega) (by omega) ?_
    exact W.zret (v := 1) hx hb hr rfl (fun t ht hW => ⟨⟨1, (), rfl, by rw [if_pos (by have := (nI_ltI (a := kk) (b := 3) (by omega) (by omega)).mp c_1; omega)], by rw [ht]; exact hP9, va_K.moved hW.alike hK, hD9⟩, hS.F ht⟩) hS.2.2 dX12_doesBuy_15
  · refine lv_iload_n hx hb dX12_doesBuy_5 rfl (lv_at hl 0 rfl) ?_
    refine lv_iconst (v := 5) hx hb dX12_doesBuy_6 (by decide) ?_
    refine lv_icmp_ne (tgt := 14) hx hb dX12_doesBuy_7 (by decide) (fun c_2 => ?_) (fun c_2 => ?_)
    · refine lv_iconst (v := 0) hx hb dX12_doesBuy_14 (by decide) ?_
      have hpd9 := pd_N (cx := []) hP hD [] (by decide) rfl
      have hP9 := hpd9.1
      have hD9 := hpd9.2
      refine W.widen (k := 0) (n := 0) (by omega) (by omega) ?_
      exact W.zret (v := 0) hx hb hr rfl (fun t ht hW => ⟨⟨0, (), rfl, by rw [if_neg (fun q => by have h1 : ¬ kk < 3 := (fun z => c_1 (nI_lt (a := kk) (b := 3) z (by omega))); have h2 : ¬ kk = 5 := (fun z => c_2 (by rw [z]; rfl)); omega)], by rw [ht]; exact hP9, va_K.moved hW.alike hK, hD9⟩, hS.F ht⟩) hS.2.2 dX12_doesBuy_15
    · refine lv_iconst (v := 1) hx hb dX12_doesBuy_10 (by decide) ?_
      refine lv_goto (tgt := 15) hx hb dX12_doesBuy_11 (by decide) ?_
      have hpd9 := pd_N (cx := []) hP hD [] (by decide) rfl
      have hP9 := hpd9.1
      have hD9 := hpd9.2
      refine W.widen (k := 0) (n := 0) (by omega) (by omega) ?_
      exact W.zret (v := 1) hx hb hr rfl (fun t ht hW => ⟨⟨1, (), rfl, by rw [if_pos (by have := (nI_eq (a := kk) (b := 5) (by omega) (by omega)).mp c_2; omega)], by rw [ht]; exact hP9, va_K.moved hW.alike hK, hD9⟩, hS.F ht⟩) hS.2.2 dX12_doesBuy_15

set_option maxHeartbeats 1000000 in
set_option maxRecDepth 100000 in
/-- X12_findOffer -/
theorem c_X12_findOffer (l : Launch) (dC : Nat → ClassId) (dI : Nat → Nat → Nat) (aC : Nat → ClassId) (sz : Nat) (g0 : Nat) (m_refused : Nat) (m_kind : Nat) (m_figure : Nat) (m_weight : Nat) (m_got : Nat) (m_setting : Nat) (m_tape : Nat) (m_letter : Nat) (m_letterAt : Nat) (m_told : Nat) (m_kept : Nat) (m_price : Nat) (m_offer : Nat) (m_gets : Nat) (m_yes : Nat) (m_buys : Nat) (m_ends : Nat) (m_carried : Nat) (m_row : Nat) (m_keptRow : Nat) (m_likeGets : Nat) (m_likePrice : Nat) (m_ahead : Nat) (msy : Int32) (mdn : Int32) (tp : Int32) (mat : Int32) (stm : Int32) (him : Int32) (ki : Int32) (crs : Int32) (rm : Int32) (n : Nat) (kf : Nat → Int32) (ff : Nat → Int32) (wf : Nat → Int32) (stf : Nat → Int32) (pf : Nat → Int32) (of : Nat → Int32) (bf : Nat → Int32) (K : Nat → Nat) (F : Nat → Nat) (W0 : Nat → Nat) (cq : Nat) (pl : PLT) (i : Nat) (hev : EVH n K F W0 cq kf ff wf stf) (hpl : PLAN n K F W0 cq (stf 1) (stf 2) (stf 3) pl) (hin : i < n) (hPq : ∀ q, i < q → q < n → pf (9 * i + q) = nI (zP pl i q)) : Met l yX12_findOffer (wW yX12_findOffer cX12_findOffer 3 (none : Option FieldType)) ({ frames := 2, cells := 0, slots := 0, locals := 50 } : Room) (va_Pc [Value.ref g0, Value.int (nI i)] (fun U => U.heap.size = sz ∧ va_P (dC, dI) classes [oX12 g0 m_refused m_kind m_figure m_weight m_got m_setting (nI n) msy mdn m_tape m_letter m_letterAt m_told tp mat stm m_kept him ki crs m_price m_offer m_gets m_yes m_buys m_ends m_carried m_row rm m_keptRow m_likeGets m_likePrice m_ahead, cI aC m_kind 9 kf, cI aC m_figure 9 ff, cI aC m_weight 9 wf, cI aC m_setting 5 stf, cI aC m_price 81 pf, cI aC m_offer 81 of, cI aC m_buys 9 bf] U.heap ∧ va_K (dC, dI) classes (TY aC) U ∧ va_D (fun _ => True) [oX12 g0 m_refused m_kind m_figure m_weight m_got m_setting (nI n) msy mdn m_tape m_letter m_letterAt m_told tp mat stm m_kept him ki crs m_price m_offer m_gets m_yes m_buys m_ends m_carried m_row rm m_keptRow m_likeGets m_likePrice m_ahead, cI aC m_kind 9 kf, cI aC m_figure 9 ff, cI aC m_weight 9 wf, cI aC m_setting 5 stf, cI aC m_price 81 pf, cI aC m_offer 81 of, cI aC m_buys 9 bf] ∧ NX U)) (va_Qv (fun (u : (Nat → Int32) × (Nat → Int32)) => match u with | (of2, bf2) => (∀ q, q < n → of2 (9 * i + q) = nI ((zO pl i) q)) ∧ bf2 i = zB pl i ∧ (∀ k, k < 9 * i ∨ 9 * i + 9 ≤ k → of2 k = of k) ∧ ∀ q, q ≠ i → bf2 q = bf q) (fun (u : (Nat → Int32) × (Nat → Int32)) (t : State) => match u with | (of2, bf2) => va_P (dC, dI) classes [oX12 g0 m_refused m_kind m_figure m_weight m_got m_setting (nI n) msy mdn m_tape m_letter m_letterAt m_told tp mat stm m_kept him ki crs m_price m_offer m_gets m_yes m_buys m_ends m_carried m_row rm m_keptRow m_likeGets m_likePrice m_ahead, cI aC m_kind 9 kf, cI aC m_figure 9 ff, cI aC m_weight 9 wf, cI aC m_setting 5 stf, cI aC m_price 81 pf, cI aC m_offer 81 of2, cI aC m_buys 9 bf2] t.heap ∧ va_K (dC, dI) classes (TY aC) t ∧ va_D (va_A [oX12 g0 m_refused m_kind m_figure m_weight m_got m_setting (nI n) msy mdn m_tape m_letter m_letterAt m_told tp mat stm m_kept him ki crs m_price m_offer m_gets m_yes m_buys m_ends m_carried m_row rm m_keptRow m_likeGets m_likePrice m_ahead, cI aC m_kind 9 kf, cI aC m_figure 9 ff, cI aC m_weight 9 wf, cI aC m_setting 5 stf, cI aC m_price 81 pf, cI aC m_offer 81 of, cI aC m_buys 9 bf] sz) [oX12 g0 m_refused m_kind m_figure m_weight m_got m_setting (nI n) msy mdn m_tape m_letter m_letterAt m_told tp mat stm m_kept him ki crs m_price m_offer m_gets m_yes m_buys m_ends m_carried m_row rm m_keptRow m_likeGets m_likePrice m_ahead, cI aC m_kind 9 kf, cI aC m_figure 9 ff, cI aC m_weight 9 wf, cI aC m_setting 5 stf, cI aC m_price 81 pf, cI aC m_offer 81 of2, cI aC m_buys 9 bf2]) (va_A [oX12 g0 m_refused m_kind m_figure m_weight m_got m_setting (nI n) msy mdn m_tape m_letter m_letterAt m_told tp mat stm m_kept him ki crs m_price m_offer m_gets m_yes m_buys m_ends m_carried m_row rm m_keptRow m_likeGets m_likePrice m_ahead, cI aC m_kind 9 kf, cI aC m_figure 9 ff, cI aC m_weight 9 wf, cI aC m_setting 5 stf, cI aC m_price 81 pf, cI aC m_offer 81 of, cI aC m_buys 9 bf] sz)) 0 0 (va_A [oX12 g0 m_refused m_kind m_figure m_weight m_got m_setting (nI n) msy mdn m_tape m_letter m_letterAt m_told tp mat stm m_kept him ki crs m_price m_offer m_gets m_yes m_buys m_ends m_carried m_row rm m_keptRow m_likeGets m_likePrice m_ahead, cI aC m_kind 9 kf, cI aC m_figure 9 ff, cI aC m_weight 9 wf, cI aC m_setting 5 stf, cI aC m_price 81 pf, cI aC m_offer 81 of, cI aC m_buys 9 bf] sz) := by
  refine Met.ofW (cc := cX12_findOffer) (maxL := 3) (ret := (none : Option FieldType)) (by decide) rfl ?_
  intro p e s m args below meth c s₁ B hml hv
  obtain ⟨rfl, hsz, hP, hK, hD0, hN⟩ := hv
  have hx := B.exec
  have hb := B.bytes
  have hr := B.returns
  have hts0 := atoms_spec (ws := (wW yX12_findOffer cX12_findOffer 3 (none : Option FieldType))) B.pre
  have hts : ∀ w9 ∈ lw_G, w9.before ([Value.ref g0, Value.int (nI i)] : List Value).toArray s = true := fun w9 h9 => hts0 w9 (List.mem_cons_of_mem _ h9)
  have hown : s.vm.findClass RX12 = some m.cls := findClass_of_methodNamed (x := yX12_findOffer) B.named
  have hlocks := B.notSynchronized
  subst hsz
  have hD := hD0.self (sz := s.heap.size)
  generalize hAe : va_A [oX12 g0 m_refused m_kind m_figure m_weight m_got m_setting (nI n) msy mdn m_tape m_letter m_letterAt m_told tp mat stm m_kept him ki crs m_price m_offer m_gets m_yes m_buys m_ends m_carried m_row rm m_keptRow m_likeGets m_likePrice m_ahead, cI aC m_kind 9 kf, cI aC m_figure 9 ff, cI aC m_weight 9 wf, cI aC m_setting 5 stf, cI aC m_price 81 pf, cI aC m_offer 81 of, cI aC m_buys 9 bf] s.heap.size = A at hD ⊢
  have hA : ∀ q : Nat, s.heap.size ≤ q → A q := fun q h => by rw [← hAe]; exact Or.inr h
  obtain ⟨H, hHe⟩ : ∃ H : Heap, H = s.heap := ⟨_, rfl⟩
  have hS : va_S A s.heap H [] := by rw [hHe]; exact va_S.rf
  have hP : va_P (dC, dI) classes [oX12 g0 m_refused m_kind m_figure m_weight m_got m_setting (nI n) msy mdn m_tape m_letter m_letterAt m_told tp mat stm m_kept him ki crs m_price m_offer m_gets m_yes m_buys m_ends m_carried m_row rm m_keptRow m_likeGets m_likePrice m_ahead, cI aC m_kind 9 kf, cI aC m_figure 9 ff, cI aC m_weight 9 wf, cI aC m_setting 5 stf, cI aC m_price 81 pf, cI aC m_offer 81 of, cI aC m_buys 9 bf] H := by rw [hHe]; exact hP
  have hl := lv_entry ([Value.ref g0, Value.int (nI i)]) (n := 3) (Nat.le_of_ble_eq_true rfl)
  rw [lg_entry_eq]
  generalize (lg_sl ([Value.ref g0, Value.int (nI i)]) ++ List.replicate (3 - (lg_sl ([Value.ref g0, Value.int (nI i)])).length) Slot.unset).toArray = ls at hl ⊢
  have hl : lv_has ls 3 [(0, Value.ref g0), (1, Value.int (nI i))] := hl
  rw [← hHe]
  have hn8 := hev.1
  obtain ⟨⟨hkf, hkle⟩, ⟨hff, hfle⟩, -⟩ := hev.2.2.2 i hin
  refine lv_iconst (v := 0) hx hb dX12_findOffer_0 (by decide) ?_
  refine lv_istore_n (lv' := [(2, Value.int 0), (0, Value.ref g0), (1, Value.int (nI i))]) hx hb dX12_findOffer_1 rfl hl (by decide) rfl (fun ls hl => ?_)
  have lp_2 : ∀ (fu : Nat) (m9 : Nat) (oc : Nat → Int32) (hfu : n - m9 < fu) (hm9 : m9 ≤ n) (hz : ∀ q, q < m9 → oc (9 * i + q) = nI 0) (hfr : ∀ k, k < 9 * i ∨ 9 * i + 9 ≤ k → oc k = of k) (H : Heap) (locs : List Loc) (ls : Array Slot), va_P (dC, dI) classes [oX12 g0 m_refused m_kind m_figure m_weight m_got m_setting (nI n) msy mdn m_tape m_letter m_letterAt m_told tp mat stm m_kept him ki crs m_price m_offer m_gets m_yes m_buys m_ends m_carried m_row rm m_keptRow m_likeGets m_likePrice m_ahead, cI aC m_kind 9 kf, cI aC m_figure 9 ff, cI aC m_weight 9 wf, cI aC m_setting 5 stf, cI aC m_price 81 pf, cI aC m_offer 81 oc, cI aC m_buys 9 bf] H → va_D A [oX12 g0 m_refused m_kind m_figure m_weight m_got m_setting (nI n) msy mdn m_tape m_letter m_letterAt m_told tp mat stm m_kept him ki crs m_price m_offer m_gets m_yes m_buys m_ends m_carried m_row rm m_keptRow m_likeGets m_likePrice m_ahead, cI aC m_kind 9 kf, cI aC m_figure 9 ff, cI aC m_weight 9 wf, cI aC m_setting 5 stf, cI aC m_price 81 pf, cI aC m_offer 81 oc, cI aC m_buys 9 bf] → va_S A s.heap H locs → lv_has ls 3 [(0, Value.ref g0), (1, Value.int (nI i)), (2, Value.int (nI m9))] → W p l e (headSpec (wW yX12_findOffer cX12_findOffer 3 (none : Option FieldType)) ({ frames := 2, cells := 0, slots := 0, locals := 50 } : Room)).room s m ([Value.ref g0, Value.int (nI i)] : List Value).toArray below meth c H locs 0 0 (MQ below (va_Qv (fun (u : (Nat → Int32) × (Nat → Int32)) => match u with | (of2, bf2) => (∀ q, q < n → of2 (9 * i + q) = nI ((zO pl i) q)) ∧ bf2 i = zB pl i ∧ (∀ k, k < 9 * i ∨ 9 * i + 9 ≤ k → of2 k = of k) ∧ ∀ q, q ≠ i → bf2 q = bf q) (fun (u : (Nat → Int32) × (Nat → Int32)) (t : State) => match u with | (of2, bf2) => va_P (dC, dI) classes [oX12 g0 m_refused m_kind m_figure m_weight m_got m_setting (nI n) msy mdn m_tape m_letter m_letterAt m_told tp mat stm m_kept him ki crs m_price m_offer m_gets m_yes m_buys m_ends m_carried m_row rm m_keptRow m_likeGets m_likePrice m_ahead, cI aC m_kind 9 kf, cI aC m_figure 9 ff, cI aC m_weight 9 wf, cI aC m_setting 5 stf, cI aC m_price 81 pf, cI aC m_offer 81 of2, cI aC m_buys 9 bf2] t.heap ∧ va_K (dC, dI) classes (TY aC) t ∧ va_D A [oX12 g0 m_refused m_kind m_figure m_weight m_got m_setting (nI n) msy mdn m_tape m_letter m_letterAt m_told tp mat stm m_kept him ki crs m_price m_offer m_gets m_yes m_buys m_ends m_carried m_row rm m_keptRow m_likeGets m_likePrice m_ahead, cI aC m_kind 9 kf, cI aC m_figure 9 ff, cI aC m_weight 9 wf, cI aC m_setting 5 stf, cI aC m_price 81 pf, cI aC m_offer 81 of2, cI aC m_buys 9 bf2]) A) ([Value.ref g0, Value.int (nI i)] : List Value).toArray s 0 0 A) (F0 m 2 ls []) := by
    intro fu
    induction fu with
    | zero => intro m9 oc hfu; exact absurd hfu (Nat.not_lt_zero _)
    | succ fu ih_2 =>
      intro m9 oc hfu hm9 hz hfr H locs ls hP hD hS hl
      refine lv_iload_n hx hb dX12_findOffer_2 rfl (lv_at hl 2 rfl) ?_
      refine lv_aload_n hx hb dX12_findOffer_3 rfl (lv_at hl 0 rfl) ?_
      refine va_get (D := (dC, dI)) (ci := 12) (v := Value.int (nI n)) (C := RX12) (T := TX12) (N := 33) hx hb hts inX12 hown hK hP 0 rfl rfl 6 (by decide) (hts _ (gw kw_723 rfl)) (fun _ h9 => h9) rfl dX12_findOffer_4 ?_
      refine lv_icmp_ge (tgt := 28) hx hb dX12_findOffer_7 (by decide) (fun c_1 => ?_) (fun c_1 => ?_)
      · have hmn : m9 = n := by
          rcases Nat.lt_or_ge m9 n with q | q
          · exact absurd c_1 (nI_ge q (by omega))
          · omega
        refine lv_aload_n hx hb dX12_findOffer_28 rfl (lv_at hl 0 rfl) ?_
        refine va_get (D := (dC, dI)) (ci := 12) (v := Value.ref m_offer) (C := RX12) (T := TX12) (N := 33) hx hb hts inX12 hown hK hP 0 rfl rfl 21 (by decide) (hts _ (gw kw_738 rfl)) (fun _ h9 => h9) rfl dX12_findOffer_29 ?_
        refine lv_bipush (v := 9) hx hb dX12_findOffer_32 (by decide) ?_
        refine lv_iload_n hx hb dX12_findOffer_34 rfl (lv_at hl 1 rfl) ?_
        refine lv_imul hx hb dX12_findOffer_35 ?_
        refine lv_topi (fun x_2 e_2 => ?_)
        have h9 : x_2 = nI (9 * i) := by rw [e_2]; exact pk_mul 9 i
        subst h9
        refine lv_iload_n hx hb dX12_findOffer_36 rfl (lv_at hl 1 rfl) ?_
        refine lv_iadd hx hb dX12_findOffer_37 ?_
        refine lv_topi (fun x_3 e_3 => ?_)
        have h9 : x_3 = nI (9 * i + i) := by rw [e_3, nI_add]
        subst h9
        refine lv_aload_n hx hb dX12_findOffer_38 rfl (lv_at hl 0 rfl) ?_
        refine va_get (D := (dC, dI)) (ci := 12) (v := Value.ref m_setting) (C := RX12) (T := TX12) (N := 33) hx hb hts inX12 hown hK hP 0 rfl rfl 5 (by decide) (hts _ (gw kw_722 rfl)) (fun _ h9 => h9) rfl dX12_findOffer_39 ?_
        refine lv_iconst (v := 0) hx hb dX12_findOffer_42 (by decide) ?_
        have h_4 : vp_in 0 5 := by unfold vp_in; decide
        refine va_iald hx hb hK hP 4 0 rfl rfl h_4 dX12_findOffer_43 ?_
        refine lv_topi (fun x_5 e_5 => ?_)
        have h9 : x_5 = nI cq := by rw [e_5]; exact hev.2.2.1
        subst h9
        have h_6 : vp_in (nI (9 * i + i)) 81 := by first | exact vp_in_nI (by omega) (by omega) | (unfold vp_in; decide) | (subst_vars; first | (unfold vp_in; decide) | exact vp_in_nI (by omega) (by omega))
        refine va_iast hx hb hK hP hD hS 6 0 rfl rfl h_6 dX12_findOffer_44 (fun H locs hP hD hS => ?_)
        obtain ⟨f_7, e_f_7⟩ : ∃ y : Nat → Int32, y = upd oc (nI (9 * i + i) : Int32).toNatClampNeg (nI cq) := ⟨_, rfl⟩
        have hpd9 : PDx (dC, dI) classes A H [oX12 g0 m_refused m_kind m_figure m_weight m_got m_setting (nI n) msy mdn m_tape m_letter m_letterAt m_told tp mat stm m_kept him ki crs m_price m_offer m_gets m_yes m_buys m_ends m_carried m_row rm m_keptRow m_likeGets m_likePrice m_ahead, cI aC m_kind 9 kf, cI aC m_figure 9 ff, cI aC m_weight 9 wf, cI aC m_setting 5 stf, cI aC m_price 81 pf, cI aC m_offer 81 f_7, cI aC m_buys 9 bf] := by rw [e_f_7]; exact ⟨hP, hD⟩
        have hP := hpd9.1
        have hD := hpd9.2
        clear hpd9
        have hO1 : ∀ q, q < n → f_7 (9 * i + q) = nI ((KO cq i) q) := fun q hq => by
          rw [e_f_7, nI_clamp (by omega)]
          unfold KO
          by_cases e : q = i
          · rw [e, pk_us, if_pos rfl]
          · rw [pk_un (by omega), if_neg e]; exact hz q (by omega)
        have hfr1 : ∀ k, k < 9 * i ∨ 9 * i + 9 ≤ k → f_7 k = of k := fun k hk => by rw [e_f_7, nI_clamp (by omega), pk_un (by omega)]; exact hfr k hk
        refine lv_aload_n hx hb dX12_findOffer_45 rfl (lv_at hl 0 rfl) ?_
        refine va_get (D := (dC, dI)) (ci := 12) (v := Value.ref m_buys) (C := RX12) (T := TX12) (N := 33) hx hb hts inX12 hown hK hP 0 rfl rfl 24 (by decide) (hts _ (gw kw_741 rfl)) (fun _ h9 => h9) rfl dX12_findOffer_46 ?_
        refine lv_iload_n hx hb dX12_findOffer_49 rfl (lv_at hl 1 rfl) ?_
        refine lv_bipush (v := -9) hx hb dX12_findOffer_50 (by decide) ?_
        have h_8 : vp_in (nI i) 9 := by first | exact vp_in_nI (by omega) (by omega) | (unfold vp_in; decide) | (subst_vars; first | (unfold vp_in; decide) | exact vp_in_nI (by omega) (by omega))
        refine va_iast hx hb hK hP hD hS 7 0 rfl rfl h_8 dX12_findOffer_52 (fun H locs hP hD hS => ?_)
        obtain ⟨f_9, e_f_9⟩ : ∃ y : Nat → Int32, y = upd bf (nI i : Int32).toNatClampNeg (-9) := ⟨_, rfl⟩
        have hpd9 : PDx (dC, dI) classes A H [oX12 g0 m_refused m_kind m_figure m_weight m_got m_setting (nI n) msy mdn m_tape m_letter m_letterAt m_told tp mat stm m_kept him ki crs m_price m_offer m_gets m_yes m_buys m_ends m_carried m_row rm m_keptRow m_likeGets m_likePrice m_ahead, cI aC m_kind 9 kf, cI aC m_figure 9 ff, cI aC m_weight 9 wf, cI aC m_setting 5 stf, cI aC m_price 81 pf, cI aC m_offer 81 f_7, cI aC m_buys 9 f_9] := by rw [e_f_9]; exact ⟨hP, hD⟩
        have hP := hpd9.1
        have hD := hpd9.2
        clear hpd9
        have hbi : f_9 i = -9 := by rw [e_f_9, nI_clamp (by omega), pk_us]
        have hbo : ∀ q, q ≠ i → f_9 q = bf q := fun q h => by rw [e_f_9, nI_clamp (by omega), pk_un h]
        refine lv_aload_n hx hb dX12_findOffer_53 rfl (lv_at hl 0 rfl) ?_
        refine va_get (D := (dC, dI)) (ci := 12) (v := Value.ref m_kind) (C := RX12) (T := TX12) (N := 33) hx hb hts inX12 hown hK hP 0 rfl rfl 1 (by decide) (hts _ (gw kw_718 rfl)) (fun _ h9 => h9) rfl dX12_findOffer_54 ?_
        refine lv_iload_n hx hb dX12_findOffer_57 rfl (lv_at hl 1 rfl) ?_
        have h_10 : vp_in (nI i) 9 := by first | exact vp_in_nI (by omega) (by omega) | (unfold vp_in; decide) | (subst_vars; first | (unfold vp_in; decide) | exact vp_in_nI (by omega) (by omega))
        refine va_iald hx hb hK hP 1 0 rfl rfl h_10 dX12_findOffer_58 ?_
        refine lv_topi (fun x_11 e_11 => ?_)
        have h9 : x_11 = nI (K i) := by rw [e_11, nI_clamp (by omega)]; exact hkf
        subst h9
        have hpd9 := pdf_N (cx := []) hP hD hS hA [] (by decide) rfl
        have hPc := hpd9.1
        have hDc := hpd9.2.1
        have hFc := hpd9.2.2
        clear hpd9
        refine va_calli (va_runS (As := [Value.int (nI (K i))]) (rest := []) ⟨hx, hb, hml, hown, hts⟩ (c_X12_doesBuy l dC dI aC H.size (K i) (hkle)) ⟨(callB_of 1 hts (gG kw_914) rfl rfl rfl (hts _ (gw kw_13 rfl)) (hts _ (gw kw_912 rfl)) hd_X12_doesBuy ⟨Nat.le_of_ble_eq_true rfl, Nat.le_of_ble_eq_true rfl⟩), (hts _ (gw kw_913 rfl))⟩ ⟨fb_std, pre_std hPc hK hDc hN⟩ rfl rfl hl.1 rfl (lv_room (Nat.le_of_ble_eq_true rfl)) dX12_findOffer_59 ⟨Nat.le_of_ble_eq_true rfl, Nat.le_of_ble_eq_true rfl⟩) hS (fun q _ h => hFc q h) hFc (fun x_12 u9 t9 H1 locs ht hvm hw_12 hB hz1 hk1 hS => ?_)
        obtain ⟨hP1, hK1, hD1⟩ := hB
        rw [ht] at hP1
        clear hK1
        try dsimp only at hw_12
        have hpd9 : PDx (dC, dI) classes A H1 [oX12 g0 m_refused m_kind m_figure m_weight m_got m_setting (nI n) msy mdn m_tape m_letter m_letterAt m_told tp mat stm m_kept him ki crs m_price m_offer m_gets m_yes m_buys m_ends m_carried m_row rm m_keptRow m_likeGets m_likePrice m_ahead, cI aC m_kind 9 kf, cI aC m_figure 9 ff, cI aC m_weight 9 wf, cI aC m_setting 5 stf, cI aC m_price 81 pf, cI aC m_offer 81 f_7, cI aC m_buys 9 f_9] := jn_N (wr := [oX12 g0 m_refused m_kind m_figure m_weight m_got m_setting (nI n) msy mdn m_tape m_letter m_letterAt m_told tp mat stm m_kept him ki crs m_price m_offer m_gets m_yes m_buys m_ends m_carried m_row rm m_keptRow m_likeGets m_likePrice m_ahead, cI aC m_kind 9 kf, cI aC m_figure 9 ff, cI aC m_weight 9 wf, cI aC m_setting 5 stf, cI aC m_price 81 pf, cI aC m_offer 81 f_7, cI aC m_buys 9 f_9]) hFc hk1 hP1 hD1 hP hD [] [0, 1, 2, 3, 4, 5, 6, 7] rfl rfl (by decide) (by decide)
        have hP := hpd9.1
        have hD := hpd9.2
        clear hpd9
        generalize H1 = H at hP hS ⊢
        clear hPc hDc hFc hz1 hk1 hP1 hD1 ht hvm
        have hz_59 := hw_12
        refine lv_if_eq (tgt := 137) hx hb dX12_findOffer_62 (by decide) (fun c_13 => ?_) (fun c_13 => ?_)
        · have hKn : ¬ (K i = 0 ∨ K i = 1 ∨ K i = 2 ∨ K i = 5) := fun q => absurd (hz_59.symm.trans c_13) (by rw [if_pos q]; decide)
          refine lv_aload_n hx hb dX12_findOffer_137 rfl (lv_at hl 0 rfl) ?_
          refine va_get (D := (dC, dI)) (ci := 12) (v := Value.ref m_kind) (C := RX12) (T := TX12) (N := 33) hx hb hts inX12 hown hK hP 0 rfl rfl 1 (by decide) (hts _ (gw kw_718 rfl)) (fun _ h9 => h9) rfl dX12_findOffer_138 ?_
          refine lv_iload_n hx hb dX12_findOffer_141 rfl (lv_at hl 1 rfl) ?_
          have h_14 : vp_in (nI i) 9 := by first | exact vp_in_nI (by omega) (by omega) | (unfold vp_in; decide) | (subst_vars; first | (unfold vp_in; decide) | exact vp_in_nI (by omega) (by omega))
          refine va_iald hx hb hK hP 1 0 rfl rfl h_14 dX12_findOffer_142 ?_
          refine lv_topi (fun x_15 e_15 => ?_)
          have h9 : x_15 = nI (K i) := by rw [e_15, nI_clamp (by omega)]; exact hkf
          subst h9
          refine lv_iconst (v := 3) hx hb dX12_findOffer_143 (by decide) ?_
          refine lv_icmp_ne (tgt := 187) hx hb dX12_findOffer_144 (by decide) (fun c_16 => ?_) (fun c_16 => ?_)
          · refine lv_aload_n hx hb dX12_findOffer_187 rfl (lv_at hl 0 rfl) ?_
            refine lv_iload_n hx hb dX12_findOffer_188 rfl (lv_at hl 1 rfl) ?_
            refine lv_aload_n hx hb dX12_findOffer_189 rfl (lv_at hl 0 rfl) ?_
            refine va_get (D := (dC, dI)) (ci := 12) (v := Value.ref m_kind) (C := RX12) (T := TX12) (N := 33) hx hb hts inX12 hown hK hP 0 rfl rfl 1 (by decide) (hts _ (gw kw_718 rfl)) (fun _ h9 => h9) rfl dX12_findOffer_190 ?_
            refine lv_iload_n hx hb dX12_findOffer_193 rfl (lv_at hl 1 rfl) ?_
            have h_17 : vp_in (nI i) 9 := by first | exact vp_in_nI (by omega) (by omega) | (unfold vp_in; decide) | (subst_vars; first | (unfold vp_in; decide) | exact vp_in_nI (by omega) (by omega))
            refine va_iald hx hb hK hP 1 0 rfl rfl h_17 dX12_findOffer_194 ?_
            refine lv_topi (fun x_18 e_18 => ?_)
            have h9 : x_18 = nI (K i) := by rw [e_18, nI_clamp (by omega)]; exact hkf
            subst h9
            refine lv_bipush (v := 6) hx hb dX12_findOffer_195 (by decide) ?_
            refine lv_icmp_ne (tgt := 204) hx hb dX12_findOffer_197 (by decide) (fun c_19 => ?_) (fun c_19 => ?_)
            · refine lv_iconst (v := 0) hx hb dX12_findOffer_204 (by decide) ?_
              have hpd9 := pdf_N (cx := [oX12 g0 m_refused m_kind m_figure m_weight m_got m_setting (nI n) msy mdn m_tape m_letter m_letterAt m_told tp mat stm m_kept him ki crs m_price m_offer m_gets m_yes m_buys m_ends m_carried m_row rm m_keptRow m_likeGets m_likePrice m_ahead, cI aC m_figure 9 ff, cI aC m_offer 81 f_7]) hP hD hS hA [0, 2, 6] (by decide) rfl
              have hPc := hpd9.1
              have hDc := hpd9.2.1
              have hFc := hpd9.2.2
              clear hpd9
              refine va_callv (va_runV (As := [Value.int (nI i), Value.int 0]) (rest := []) ⟨hx, hb, hml, hown, hts⟩ (c_X12_offersFools_0 l dC dI aC H.size g0 m_refused m_kind m_figure m_weight m_got m_setting m_tape m_letter m_letterAt m_told m_kept m_price m_offer m_gets m_yes m_buys m_ends m_carried m_row m_keptRow m_likeGets m_likePrice m_ahead msy mdn tp mat stm him ki crs rm n ff f_7 i (F i) (KO cq i) (⟨hin, hn8⟩) (hff) (by omega) (hO1) (KO_le hev.2.1)) ⟨(callB_of 2 hts (gG kw_949) rfl rfl rfl (hts _ (gw kw_13 rfl)) (hts _ (gw kw_946 rfl)) hd_X12_offersFools ⟨Nat.le_of_ble_eq_true rfl, Nat.le_of_ble_eq_true rfl⟩), (hts _ (gw kw_948 rfl)), (hts _ (gw ks_56 rfl))⟩ ⟨fb_std, va_recv (q := (RX12, TX12, 33)) hK hPc (ci := 12) (q0 := 0) rfl rfl, pre_std hPc hK hDc hN⟩ rfl rfl hl.1 rfl (lv_room (Nat.le_of_ble_eq_true rfl)) dX12_findOffer_205 ⟨Nat.le_of_ble_eq_true rfl, Nat.le_of_ble_eq_true rfl⟩) hS (fun q _ h => hFc q h) hFc (fun u9 t9 H1 locs ht hvm hw_20 hB hz1 hk1 hS => ?_)
              obtain ⟨u_21, rfl⟩ : ∃ z, z = u9 := ⟨_, rfl⟩
              obtain ⟨hP1, hK1, hD1⟩ := hB
              rw [ht] at hP1
              clear hK1
              try dsimp only at hw_20
              have hpd9 : PDx (dC, dI) classes A H1 [cI aC m_kind 9 kf, cI aC m_weight 9 wf, cI aC m_setting 5 stf, cI aC m_price 81 pf, cI aC m_buys 9 f_9, oX12 g0 m_refused m_kind m_figure m_weight m_got m_setting (nI n) msy mdn m_tape m_letter m_letterAt m_told tp mat stm m_kept him ki crs m_price m_offer m_gets m_yes m_buys m_ends m_carried m_row rm m_keptRow m_likeGets m_likePrice m_ahead, cI aC m_figure 9 ff, cI aC m_offer 81 u_21] := jn_N (wr := [cI aC m_kind 9 kf, cI aC m_weight 9 wf, cI aC m_setting 5 stf, cI aC m_price 81 pf, cI aC m_buys 9 f_9]) hFc hk1 hP1 hD1 hP hD [0, 2, 6] [1, 3, 4, 5, 7] rfl rfl (by decide) (by decide)
              have hP := hpd9.1
              have hD := hpd9.2
              clear hpd9
              generalize H1 = H at hP hS ⊢
              clear hPc hDc hFc hz1 hk1 hP1 hD1 ht hvm
              obtain ⟨hf1, hf2⟩ := hw_20
              have hk9 : K i = 4 := by
                have h1 : ¬ K i = 3 := fun q => c_16 (by rw [q]; rfl)
                have h2 : ¬ K i = 6 := fun q => c_19 (by rw [q]; rfl)
                omega
              have hfin9 := or_fin hpl hin hn8 hkle (of_4 (n := n) (F := F) (B := f_9 i) hk9 hbi hev.2.1 hfle).2 hf1
              have hpost : (∀ q, q < n → u_21 (9 * i + q) = nI ((zO pl i) q)) ∧ f_9 i = zB pl i ∧ (∀ k, k < 9 * i ∨ 9 * i + 9 ≤ k → u_21 k = of k) ∧ ∀ q, q ≠ i → f_9 q = bf q := ⟨hfin9.1, hfin9.2, fun k hk => (hf2 k hk).trans (hfr1 k hk), hbo⟩
              have hpd9 := pd_N (cx := [oX12 g0 m_refused m_kind m_figure m_weight m_got m_setting (nI n) msy mdn m_tape m_letter m_letterAt m_told tp mat stm m_kept him ki crs m_price m_offer m_gets m_yes m_buys m_ends m_carried m_row rm m_keptRow m_likeGets m_likePrice m_ahead, cI aC m_kind 9 kf, cI aC m_figure 9 ff, cI aC m_weight 9 wf, cI aC m_setting 5 stf, cI aC m_price 81 pf, cI aC m_offer 81 u_21, cI aC m_buys 9 f_9]) hP hD [5, 0, 6, 1, 2, 3, 7, 4] (by decide) rfl
              have hP9 := hpd9.1
              have hD9 := hpd9.2
              refine W.widen (k := 0) (n := 0) (by omega) (by omega) ?_
              exact W.vret hx hb hr (fun t ht hW => ⟨⟨(u_21, f_9), rfl, hpost, by rw [ht]; exact hP9, va_K.moved hW.alike hK, hD9⟩, hS.F ht⟩) hS.2.2 dX12_findOffer_208
            · refine lv_iconst (v := 1) hx hb dX12_findOffer_200 (by decide) ?_
              refine lv_goto (tgt := 205) hx hb dX12_findOffer_201 (by decide) ?_
              have hpd9 := pdf_N (cx := [oX12 g0 m_refused m_kind m_figure m_weight m_got m_setting (nI n) msy mdn m_tape m_letter m_letterAt m_told tp mat stm m_kept him ki crs m_price m_offer m_gets m_yes m_buys m_ends m_carried m_row rm m_keptRow m_likeGets m_likePrice m_ahead, cI aC m_figure 9 ff, cI aC m_offer 81 f_7]) hP hD hS hA [0, 2, 6] (by decide) rfl
              have hPc := hpd9.1
              have hDc := hpd9.2.1
              have hFc := hpd9.2.2
              clear hpd9
              refine va_callv (va_runV (As := [Value.int (nI i), Value.int 1]) (rest := []) ⟨hx, hb, hml, hown, hts⟩ (c_X12_offersFools_1 l dC dI aC H.size g0 m_refused m_kind m_figure m_weight m_got m_setting m_tape m_letter m_letterAt m_told m_kept m_price m_offer m_gets m_yes m_buys m_ends m_carried m_row m_keptRow m_likeGets m_likePrice m_ahead msy mdn tp mat stm him ki crs rm n ff f_7 i (F i) (KO cq i) (⟨hin, hn8⟩) (hff) (by omega) (hO1) (KO_le hev.2.1)) ⟨(callB_of 2 hts (gG kw_949) rfl rfl rfl (hts _ (gw kw_13 rfl)) (hts _ (gw kw_946 rfl)) hd_X12_offersFools ⟨Nat.le_of_ble_eq_true rfl, Nat.le_of_ble_eq_true rfl⟩), (hts _ (gw kw_948 rfl)), (hts _ (gw ks_56 rfl))⟩ ⟨fb_std, va_recv (q := (RX12, TX12, 33)) hK hPc (ci := 12) (q0 := 0) rfl rfl, pre_std hPc hK hDc hN⟩ rfl rfl hl.1 rfl (lv_room (Nat.le_of_ble_eq_true rfl)) dX12_findOffer_205 ⟨Nat.le_of_ble_eq_true rfl, Nat.le_of_ble_eq_true rfl⟩) hS (fun q _ h => hFc q h) hFc (fun u9 t9 H1 locs ht hvm hw_22 hB hz1 hk1 hS => ?_)
              obtain ⟨u_23, rfl⟩ : ∃ z, z = u9 := ⟨_, rfl⟩
              obtain ⟨hP1, hK1, hD1⟩ := hB
              rw [ht] at hP1
              clear hK1
              try dsimp only at hw_22
              have hpd9 : PDx (dC, dI) classes A H1 [cI aC m_kind 9 kf, cI aC m_weight 9 wf, cI aC m_setting 5 stf, cI aC m_price 81 pf, cI aC m_buys 9 f_9, oX12 g0 m_refused m_kind m_figure m_weight m_got m_setting (nI n) msy mdn m_tape m_letter m_letterAt m_told tp mat stm m_kept him ki crs m_price m_offer m_gets m_yes m_buys m_ends m_carried m_row rm m_keptRow m_likeGets m_likePrice m_ahead, cI aC m_figure 9 ff, cI aC m_offer 81 u_23] := jn_N (wr := [cI aC m_kind 9 kf, cI aC m_weight 9 wf, cI aC m_setting 5 stf, cI aC m_price 81 pf, cI aC m_buys 9 f_9]) hFc hk1 hP1 hD1 hP hD [0, 2, 6] [1, 3, 4, 5, 7] rfl rfl (by decide) (by decide)
              have hP := hpd9.1
              have hD := hpd9.2
              clear hpd9
              generalize H1 = H at hP hS ⊢
              clear hPc hDc hFc hz1 hk1 hP1 hD1 ht hvm
              obtain ⟨hf1, hf2⟩ := hw_22
              have hk9 : K i = 6 := (nI_eq (a := K i) (b := 6) (by omega) (by omega)).mp c_19
              have hfin9 := or_fin hpl hin hn8 hkle (of_6 (n := n) (F := F) (B := f_9 i) hk9 hbi hev.2.1 hfle).2 hf1
              have hpost : (∀ q, q < n → u_23 (9 * i + q) = nI ((zO pl i) q)) ∧ f_9 i = zB pl i ∧ (∀ k, k < 9 * i ∨ 9 * i + 9 ≤ k → u_23 k = of k) ∧ ∀ q, q ≠ i → f_9 q = bf q := ⟨hfin9.1, hfin9.2, fun k hk => (hf2 k hk).trans (hfr1 k hk), hbo⟩
              have hpd9 := pd_N (cx := [oX12 g0 m_refused m_kind m_figure m_weight m_got m_setting (nI n) msy mdn m_tape m_letter m_letterAt m_told tp mat stm m_kept him ki crs m_price m_offer m_gets m_yes m_buys m_ends m_carried m_row rm m_keptRow m_likeGets m_likePrice m_ahead, cI aC m_kind 9 kf, cI aC m_figure 9 ff, cI aC m_weight 9 wf, cI aC m_setting 5 stf, cI aC m_price 81 pf, cI aC m_offer 81 u_23, cI aC m_buys 9 f_9]) hP hD [5, 0, 6, 1, 2, 3, 7, 4] (by decide) rfl
              have hP9 := hpd9.1
              have hD9 := hpd9.2
              refine W.widen (k := 0) (n := 0) (by omega) (by omega) ?_
              exact W.vret hx hb hr (fun t ht hW => ⟨⟨(u_23, f_9), rfl, hpost, by rw [ht]; exact hP9, va_K.moved hW.alike hK, hD9⟩, hS.F ht⟩) hS.2.2 dX12_findOffer_208
          · have hk3 : K i = 3 := (nI_eq (a := K i) (b := 3) (by omega) (by omega)).mp c_16
            refine lv_iload_n hx hb dX12_findOffer_147 rfl (lv_at hl 1 rfl) ?_
            refine lv_iconst (v := 1) hx hb dX12_findOffer_148 (by decide) ?_
            refine lv_iadd hx hb dX12_findOffer_149 ?_
            refine lv_topi (fun x_24 e_24 => ?_)
            refine lv_istore_n (lv' := [(2, Value.int x_24), (0, Value.ref g0), (1, Value.int (nI i))]) hx hb dX12_findOffer_150 rfl hl (by decide) rfl (fun ls hl => ?_)
            have h9 : x_24 = nI (i + 1) := by rw [e_24, nI_1]
            subst h9
            have lp_151 : ∀ (fu : Nat) (m9 : Nat) (oc : Nat → Int32) (hfu : n - m9 < fu) (hm9 : i < m9 ∧ m9 ≤ n) (hrow : ∀ q, q < n → oc (9 * i + q) = nI ((sE (KO cq i) i (cq / (n - i)) (m9 - (i + 1))) q)) (hfr2 : ∀ k, k < 9 * i ∨ 9 * i + 9 ≤ k → oc k = of k) (H : Heap) (locs : List Loc) (ls : Array Slot), va_P (dC, dI) classes [oX12 g0 m_refused m_kind m_figure m_weight m_got m_setting (nI n) msy mdn m_tape m_letter m_letterAt m_told tp mat stm m_kept him ki crs m_price m_offer m_gets m_yes m_buys m_ends m_carried m_row rm m_keptRow m_likeGets m_likePrice m_ahead, cI aC m_kind 9 kf, cI aC m_figure 9 ff, cI aC m_weight 9 wf, cI aC m_setting 5 stf, cI aC m_price 81 pf, cI aC m_offer 81 oc, cI aC m_buys 9 f_9] H → va_D A [oX12 g0 m_refused m_kind m_figure m_weight m_got m_setting (nI n) msy mdn m_tape m_letter m_letterAt m_told tp mat stm m_kept him ki crs m_price m_offer m_gets m_yes m_buys m_ends m_carried m_row rm m_keptRow m_likeGets m_likePrice m_ahead, cI aC m_kind 9 kf, cI aC m_figure 9 ff, cI aC m_weight 9 wf, cI aC m_setting 5 stf, cI aC m_price 81 pf, cI aC m_offer 81 oc, cI aC m_buys 9 f_9] → va_S A s.heap H locs → lv_has ls 3 [(0, Value.ref g0), (1, Value.int (nI i)), (2, Value.int (nI m9))] → W p l e (headSpec (wW yX12_findOffer cX12_findOffer 3 (none : Option FieldType)) ({ frames := 2, cells := 0, slots := 0, locals := 50 } : Room)).room s m ([Value.ref g0, Value.int (nI i)] : List Value).toArray below meth c H locs 0 0 (MQ below (va_Qv (fun (u : (Nat → Int32) × (Nat → Int32)) => match u with | (of2, bf2) => (∀ q, q < n → of2 (9 * i + q) = nI ((zO pl i) q)) ∧ bf2 i = zB pl i ∧ (∀ k, k < 9 * i ∨ 9 * i + 9 ≤ k → of2 k = of k) ∧ ∀ q, q ≠ i → bf2 q = bf q) (fun (u : (Nat → Int32) × (Nat → Int32)) (t : State) => match u with | (of2, bf2) => va_P (dC, dI) classes [oX12 g0 m_refused m_kind m_figure m_weight m_got m_setting (nI n) msy mdn m_tape m_letter m_letterAt m_told tp mat stm m_kept him ki crs m_price m_offer m_gets m_yes m_buys m_ends m_carried m_row rm m_keptRow m_likeGets m_likePrice m_ahead, cI aC m_kind 9 kf, cI aC m_figure 9 ff, cI aC m_weight 9 wf, cI aC m_setting 5 stf, cI aC m_price 81 pf, cI aC m_offer 81 of2, cI aC m_buys 9 bf2] t.heap ∧ va_K (dC, dI) classes (TY aC) t ∧ va_D A [oX12 g0 m_refused m_kind m_figure m_weight m_got m_setting (nI n) msy mdn m_tape m_letter m_letterAt m_told tp mat stm m_kept him ki crs m_price m_offer m_gets m_yes m_buys m_ends m_carried m_row rm m_keptRow m_likeGets m_likePrice m_ahead, cI aC m_kind 9 kf, cI aC m_figure 9 ff, cI aC m_weight 9 wf, cI aC m_setting 5 stf, cI aC m_price 81 pf, cI aC m_offer 81 of2, cI aC m_buys 9 bf2]) A) ([Value.ref g0, Value.int (nI i)] : List Value).toArray s 0 0 A) (F0 m 151 ls []) := by
              intro fu
              induction fu with
              | zero => intro m9 oc hfu; exact absurd hfu (Nat.not_lt_zero _)
              | succ fu ih_151 =>
                intro m9 oc hfu hm9 hrow hfr2 H locs ls hP hD hS hl
                refine lv_iload_n hx hb dX12_findOffer_151 rfl (lv_at hl 2 rfl) ?_
                refine lv_aload_n hx hb dX12_findOffer_152 rfl (lv_at hl 0 rfl) ?_
                refine va_get (D := (dC, dI)) (ci := 12) (v := Value.int (nI n)) (C := RX12) (T := TX12) (N := 33) hx hb hts inX12 hown hK hP 0 rfl rfl 6 (by decide) (hts _ (gw kw_723 rfl)) (fun _ h9 => h9) rfl dX12_findOffer_153 ?_
                refine lv_icmp_ge (tgt := 184) hx hb dX12_findOffer_156 (by decide) (fun c_25 => ?_) (fun c_25 => ?_)
                · have hmn : m9 = n := by
                    rcases Nat.lt_or_ge m9 n with q | q
                    · exact absurd c_25 (nI_ge q (by omega))
                    · omega
                  have hrw : ∀ q, q < n → oc (9 * i + q) = nI ((sE (KO cq i) i (cq / (n - i)) (n - 1 - i)) q) := fun q hq => by rw [hrow q hq, hmn, show n - (i + 1) = n - 1 - i by omega]
                  have hfin9 := or_fin hpl hin hn8 hkle (of_3 (B := f_9 i) hk3 hbi hev.2.1).2 hrw
                  have hpost : (∀ q, q < n → oc (9 * i + q) = nI ((zO pl i) q)) ∧ f_9 i = zB pl i ∧ (∀ k, k < 9 * i ∨ 9 * i + 9 ≤ k → oc k = of k) ∧ ∀ q, q ≠ i → f_9 q = bf q := ⟨hfin9.1, hfin9.2, hfr2, hbo⟩
                  refine lv_goto (tgt := 208) hx hb dX12_findOffer_184 (by decide) ?_
                  have hpd9 := pd_N (cx := [oX12 g0 m_refused m_kind m_figure m_weight m_got m_setting (nI n) msy mdn m_tape m_letter m_letterAt m_told tp mat stm m_kept him ki crs m_price m_offer m_gets m_yes m_buys m_ends m_carried m_row rm m_keptRow m_likeGets m_likePrice m_ahead, cI aC m_kind 9 kf, cI aC m_figure 9 ff, cI aC m_weight 9 wf, cI aC m_setting 5 stf, cI aC m_price 81 pf, cI aC m_offer 81 oc, cI aC m_buys 9 f_9]) hP hD [0, 1, 2, 3, 4, 5, 6, 7] (by decide) rfl
                  have hP9 := hpd9.1
                  have hD9 := hpd9.2
                  refine W.widen (k := 0) (n := 0) (by omega) (by omega) ?_
                  exact W.vret hx hb hr (fun t ht hW => ⟨⟨(oc, f_9), rfl, hpost, by rw [ht]; exact hP9, va_K.moved hW.alike hK, hD9⟩, hS.F ht⟩) hS.2.2 dX12_findOffer_208
                · have hlt : m9 < n := by
                    rcases Nat.lt_or_ge m9 n with q | q
                    · exact q
                    · exact absurd (nI_le q (by omega)) c_25
                  have hfl := fair_le (cq := cq) (i := i) (n := n) (k := m9 - (i + 1)) (by omega)
                  have hsi := sE_i (cq := cq) (i := i) (c := (cq / (n - i))) (m9 - (i + 1)) (Nat.le_trans (Nat.le_add_right _ _) hfl)
                  have hce : (cq / (n - i)) ≤ sE (KO cq i) i (cq / (n - i)) (m9 - (i + 1)) i := by omega
                  have hsl := sE_le (i := i) (Nat.le_trans (Nat.div_le_self cq (n - i)) hev.2.1) (KO_le (i := i) hev.2.1) (m9 - (i + 1)) i
                  refine lv_aload_n hx hb dX12_findOffer_159 rfl (lv_at hl 0 rfl) ?_
                  refine lv_iload_n hx hb dX12_findOffer_160 rfl (lv_at hl 1 rfl) ?_
                  refine lv_iload_n hx hb dX12_findOffer_161 rfl (lv_at hl 2 rfl) ?_
                  refine lv_aload_n hx hb dX12_findOffer_162 rfl (lv_at hl 0 rfl) ?_
                  refine va_get (D := (dC, dI)) (ci := 12) (v := Value.ref m_setting) (C := RX12) (T := TX12) (N := 33) hx hb hts inX12 hown hK hP 0 rfl rfl 5 (by decide) (hts _ (gw kw_722 rfl)) (fun _ h9 => h9) rfl dX12_findOffer_163 ?_
                  refine lv_iconst (v := 0) hx hb dX12_findOffer_166 (by decide) ?_
                  have h_26 : vp_in 0 5 := by unfold vp_in; decide
                  refine va_iald hx hb hK hP 4 0 rfl rfl h_26 dX12_findOffer_167 ?_
                  refine lv_topi (fun x_27 e_27 => ?_)
                  have h9 : x_27 = nI cq := by rw [e_27]; exact hev.2.2.1
                  subst h9
                  refine lv_aload_n hx hb dX12_findOffer_168 rfl (lv_at hl 0 rfl) ?_
                  refine va_get (D := (dC, dI)) (ci := 12) (v := Value.int (nI n)) (C := RX12) (T := TX12) (N := 33) hx hb hts inX12 hown hK hP 0 rfl rfl 6 (by decide) (hts _ (gw kw_723 rfl)) (fun _ h9 => h9) rfl dX12_findOffer_169 ?_
                  refine lv_iload_n hx hb dX12_findOffer_172 rfl (lv_at hl 1 rfl) ?_
                  refine lv_isub hx hb dX12_findOffer_173 ?_
                  refine lv_topi (fun x_28 e_28 => ?_)
                  have h9 : x_28 = nI (n - i) := by rw [e_28]; exact pk_sub (by omega)
                  subst h9
                  refine lv_idiv hx hb dX12_findOffer_174 (nI_ne0 (by omega) (by omega)) ?_
                  refine lv_topi (fun x_29 e_29 => ?_)
                  have h9 : x_29 = nI (cq / (n - i)) := by rw [e_29]; exact pk_div (by have := hev.2.1; omega) (by omega) (by omega)
                  subst h9
                  have hpd9 := pdf_N (cx := [oX12 g0 m_refused m_kind m_figure m_weight m_got m_setting (nI n) msy mdn m_tape m_letter m_letterAt m_told tp mat stm m_kept him ki crs m_price m_offer m_gets m_yes m_buys m_ends m_carried m_row rm m_keptRow m_likeGets m_likePrice m_ahead, cI aC m_offer 81 oc]) hP hD hS hA [0, 6] (by decide) rfl
                  have hPc := hpd9.1
                  have hDc := hpd9.2.1
                  have hFc := hpd9.2.2
                  clear hpd9
                  refine va_callv (va_runV (As := [Value.int (nI i), Value.int (nI m9), Value.int (nI (cq / (n - i)))]) (rest := []) ⟨hx, hb, hml, hown, hts⟩ (c_X12_offersEach l dC dI aC H.size g0 m_refused m_kind m_figure m_weight m_got m_setting m_tape m_letter m_letterAt m_told m_kept m_price m_offer m_gets m_yes m_buys m_ends m_carried m_row m_keptRow m_likeGets m_likePrice m_ahead msy mdn tp mat stm him ki crs rm n oc i m9 (cq / (n - i)) (sE (KO cq i) i (cq / (n - i)) (m9 - (i + 1)) i) (by omega) (hrow i (by omega)) (⟨hce, hsl⟩)) ⟨(callB_of 3 hts (gG kw_945) rfl rfl rfl (hts _ (gw kw_13 rfl)) (hts _ (gw kw_942 rfl)) hd_X12_offersEach ⟨Nat.le_of_ble_eq_true rfl, Nat.le_of_ble_eq_true rfl⟩), (hts _ (gw kw_944 rfl)), (hts _ (gw ks_55 rfl))⟩ ⟨fb_std, va_recv (q := (RX12, TX12, 33)) hK hPc (ci := 12) (q0 := 0) rfl rfl, pre_std hPc hK hDc hN⟩ rfl rfl hl.1 rfl (lv_room (Nat.le_of_ble_eq_true rfl)) dX12_findOffer_175 ⟨Nat.le_of_ble_eq_true rfl, Nat.le_of_ble_eq_true rfl⟩) hS (fun q _ h => hFc q h) hFc (fun u9 t9 H1 locs ht hvm hw_30 hB hz1 hk1 hS => ?_)
                  obtain ⟨u_31, rfl⟩ : ∃ z, z = u9 := ⟨_, rfl⟩
                  obtain ⟨hP1, hK1, hD1⟩ := hB
                  rw [ht] at hP1
                  clear hK1
                  try dsimp only at hw_30
                  have hpd9 : PDx (dC, dI) classes A H1 [cI aC m_kind 9 kf, cI aC m_figure 9 ff, cI aC m_weight 9 wf, cI aC m_setting 5 stf, cI aC m_price 81 pf, cI aC m_buys 9 f_9, oX12 g0 m_refused m_kind m_figure m_weight m_got m_setting (nI n) msy mdn m_tape m_letter m_letterAt m_told tp mat stm m_kept him ki crs m_price m_offer m_gets m_yes m_buys m_ends m_carried m_row rm m_keptRow m_likeGets m_likePrice m_ahead, cI aC m_offer 81 u_31] := jn_N (wr := [cI aC m_kind 9 kf, cI aC m_figure 9 ff, cI aC m_weight 9 wf, cI aC m_setting 5 stf, cI aC m_price 81 pf, cI aC m_buys 9 f_9]) hFc hk1 hP1 hD1 hP hD [0, 6] [1, 2, 3, 4, 5, 7] rfl rfl (by decide) (by decide)
                  have hP := hpd9.1
                  have hD := hpd9.2
                  clear hpd9
                  generalize H1 = H at hP hS ⊢
                  clear hPc hDc hFc hz1 hk1 hP1 hD1 ht hvm
                  have hb1 : ∀ q, q < n → u_31 (9 * i + q) = nI ((sE (KO cq i) i (cq / (n - i)) (m9 + 1 - (i + 1))) q) := oe_row (j := m9) (by omega) hw_30 rfl hrow (fun q _ => by rw [sE_suc hm9.1]; unfold gv; rw [if_pos hce]; by_cases e : q = i <;> first | (rw [e, if_neg (by omega), if_pos rfl, if_pos rfl]; done) | (rw [if_neg e, if_neg e]))
                  have hb2 := oe_fr (by omega) hw_30 hfr2
                  obtain ⟨x_32, e_32⟩ : ∃ y : Int32, y = (nI m9) + 1 := ⟨_, rfl⟩
                  refine lv_iinc (v := x_32) (lv' := [(2, Value.int x_32), (0, Value.ref g0), (1, Value.int (nI i))]) hx hb dX12_findOffer_178 hl (k := 2) rfl (by rw [e_32]; rfl) (by decide) rfl (fun ls hl => ?_)
                  have h9 : x_32 = nI (m9 + 1) := by rw [e_32, nI_1]
                  subst h9
                  refine lv_goto (tgt := 151) hx hb dX12_findOffer_181 (by decide) ?_
                  exact ih_151 (m9 + 1) u_31 (ms_lt hlt hfu) (by omega) (hb1) (hb2) _ _ _ (hP.sub [6, 0, 1, 2, 3, 4, 7, 5] rfl) (hD.sub [6, 0, 1, 2, 3, 4, 7, 5] (by decide) rfl) hS (lv_sub hl [1, 2, 0] rfl)
            exact lp_151 ((n - (i + 1)) + 1) (i + 1) f_7 (Nat.lt_succ_self _) (by omega) (fun q hq => by rw [Nat.sub_self]; exact hO1 q hq) (hfr1) _ _ _ (hP.sub [0, 1, 2, 3, 4, 5, 6, 7] rfl) (hD.sub [0, 1, 2, 3, 4, 5, 6, 7] (by decide) rfl) hS (lv_sub hl [1, 2, 0] rfl)
        · have hKb : K i = 0 ∨ K i = 1 ∨ K i = 2 ∨ K i = 5 := by
            by_cases q : K i = 0 ∨ K i = 1 ∨ K i = 2 ∨ K i = 5
            · exact q
            · exact absurd (by rw [hz_59, if_neg q]) c_13
          refine lv_aload_n hx hb dX12_findOffer_65 rfl (lv_at hl 0 rfl) ?_
          refine va_get (D := (dC, dI)) (ci := 12) (v := Value.ref m_buys) (C := RX12) (T := TX12) (N := 33) hx hb hts inX12 hown hK hP 0 rfl rfl 24 (by decide) (hts _ (gw kw_741 rfl)) (fun _ h9 => h9) rfl dX12_findOffer_66 ?_
          refine lv_iload_n hx hb dX12_findOffer_69 rfl (lv_at hl 1 rfl) ?_
          refine lv_aload_n hx hb dX12_findOffer_70 rfl (lv_at hl 0 rfl) ?_
          refine lv_iload_n hx hb dX12_findOffer_71 rfl (lv_at hl 1 rfl) ?_
          have hpd9 := pdf_N (cx := [oX12 g0 m_refused m_kind m_figure m_weight m_got m_setting (nI n) msy mdn m_tape m_letter m_letterAt m_told tp mat stm m_kept him ki crs m_price m_offer m_gets m_yes m_buys m_ends m_carried m_row rm m_keptRow m_likeGets m_likePrice m_ahead, cI aC m_weight 9 wf, cI aC m_setting 5 stf, cI aC m_price 81 pf]) hP hD hS hA [0, 3, 4, 5] (by decide) rfl
          have hPc := hpd9.1
          have hDc := hpd9.2.1
          have hFc := hpd9.2.2
          clear hpd9
          refine va_calli (va_runV (As := [Value.int (nI i)]) (rest := [Value.int (nI i), Value.ref m_buys]) ⟨hx, hb, hml, hown, hts⟩ (c_X12_buysBy l dC dI aC H.size g0 m_refused m_kind m_figure m_weight m_got m_setting m_tape m_letter m_letterAt m_told m_kept m_price m_offer m_gets m_yes m_buys m_ends m_carried m_row m_keptRow m_likeGets m_likePrice m_ahead msy mdn tp mat stm him ki crs rm n wf stf pf W0 (zP pl i) cq i (HW_of hev) (⟨hin, hn8⟩) (fun q h1 h2 => ⟨hPq q h1 h2, zP_le hpl (HF_of hev) h1 h2⟩) (⟨hev.2.2.1, hev.2.1⟩)) ⟨(callB_of 1 hts (gG kw_918) rfl rfl rfl (hts _ (gw kw_13 rfl)) (hts _ (gw kw_915 rfl)) hd_X12_buysBy ⟨Nat.le_of_ble_eq_true rfl, Nat.le_of_ble_eq_true rfl⟩), (hts _ (gw kw_917 rfl)), (hts _ (gw ks_49 rfl))⟩ ⟨fb_std, va_recv (q := (RX12, TX12, 33)) hK hPc (ci := 12) (q0 := 0) rfl rfl, pre_std hPc hK hDc hN⟩ rfl rfl hl.1 rfl (lv_room (Nat.le_of_ble_eq_true rfl)) dX12_findOffer_72 ⟨Nat.le_of_ble_eq_true rfl, Nat.le_of_ble_eq_true rfl⟩) hS (fun q _ h => hFc q h) hFc (fun x_33 u9 t9 H1 locs ht hvm hw_33 hB hz1 hk1 hS => ?_)
          obtain ⟨hP1, hK1, hD1⟩ := hB
          rw [ht] at hP1
          clear hK1
          try dsimp only at hw_33
          have hpd9 : PDx (dC, dI) classes A H1 [cI aC m_kind 9 kf, cI aC m_figure 9 ff, cI aC m_offer 81 f_7, cI aC m_buys 9 f_9, oX12 g0 m_refused m_kind m_figure m_weight m_got m_setting (nI n) msy mdn m_tape m_letter m_letterAt m_told tp mat stm m_kept him ki crs m_price m_offer m_gets m_yes m_buys m_ends m_carried m_row rm m_keptRow m_likeGets m_likePrice m_ahead, cI aC m_weight 9 wf, cI aC m_setting 5 stf, cI aC m_price 81 pf] := jn_N (wr := [cI aC m_kind 9 kf, cI aC m_figure 9 ff, cI aC m_offer 81 f_7, cI aC m_buys 9 f_9]) hFc hk1 hP1 hD1 hP hD [0, 3, 4, 5] [1, 2, 6, 7] rfl rfl (by decide) (by decide)
          have hP := hpd9.1
          have hD := hpd9.2
          clear hpd9
          generalize H1 = H at hP hS ⊢
          clear hPc hDc hFc hz1 hk1 hP1 hD1 ht hvm
          have hz_72 := hw_33
          have h_34 : vp_in (nI i) 9 := by first | exact vp_in_nI (by omega) (by omega) | (unfold vp_in; decide) | (subst_vars; first | (unfold vp_in; decide) | exact vp_in_nI (by omega) (by omega))
          refine va_iast hx hb hK hP hD hS 3 0 rfl rfl h_34 dX12_findOffer_75 (fun H locs hP hD hS => ?_)
          obtain ⟨f_35, e_f_35⟩ : ∃ y : Nat → Int32, y = upd f_9 (nI i : Int32).toNatClampNeg x_33 := ⟨_, rfl⟩
          have hpd9 : PDx (dC, dI) classes A H [cI aC m_kind 9 kf, cI aC m_figure 9 ff, cI aC m_offer 81 f_7, cI aC m_buys 9 f_35, oX12 g0 m_refused m_kind m_figure m_weight m_got m_setting (nI n) msy mdn m_tape m_letter m_letterAt m_told tp mat stm m_kept him ki crs m_price m_offer m_gets m_yes m_buys m_ends m_carried m_row rm m_keptRow m_likeGets m_likePrice m_ahead, cI aC m_weight 9 wf, cI aC m_setting 5 stf, cI aC m_price 81 pf] := by rw [e_f_35]; exact ⟨hP, hD⟩
          have hP := hpd9.1
          have hD := hpd9.2
          clear hpd9
          obtain ⟨s9, hbuy, hsr⟩ := by_split hin hn8 hz_72
          have hri : f_35 i = x_33 := by rw [e_f_35, nI_clamp (by omega), pk_us]
          have hro : ∀ q, q ≠ i → f_35 q = bf q := fun q h => by rw [e_f_35, nI_clamp (by omega), pk_un h]; exact hbo q h
          refine lv_iload_n hx hb dX12_findOffer_76 rfl (lv_at hl 1 rfl) ?_
          refine lv_iconst (v := 1) hx hb dX12_findOffer_77 (by decide) ?_
          refine lv_iadd hx hb dX12_findOffer_78 ?_
          refine lv_topi (fun x_36 e_36 => ?_)
          refine lv_istore_n (lv' := [(2, Value.int x_36), (0, Value.ref g0), (1, Value.int (nI i))]) hx hb dX12_findOffer_79 rfl hl (by decide) rfl (fun ls hl => ?_)
          have h9 : x_36 = nI (i + 1) := by rw [e_36, nI_1]
          subst h9
          have lp_80 : ∀ (fu : Nat) (m9 : Nat) (oc : Nat → Int32) (hfu : n - m9 < fu) (hm9 : i < m9 ∧ m9 ≤ n) (hrow : ∀ q, q < n → oc (9 * i + q) = nI ((BO cq i (zP pl i) s9 m9) q)) (hfr2 : ∀ k, k < 9 * i ∨ 9 * i + 9 ≤ k → oc k = of k) (H : Heap) (locs : List Loc) (ls : Array Slot), va_P (dC, dI) classes [cI aC m_kind 9 kf, cI aC m_figure 9 ff, cI aC m_offer 81 oc, cI aC m_buys 9 f_35, oX12 g0 m_refused m_kind m_figure m_weight m_got m_setting (nI n) msy mdn m_tape m_letter m_letterAt m_told tp mat stm m_kept him ki crs m_price m_offer m_gets m_yes m_buys m_ends m_carried m_row rm m_keptRow m_likeGets m_likePrice m_ahead, cI aC m_weight 9 wf, cI aC m_setting 5 stf, cI aC m_price 81 pf] H → va_D A [cI aC m_kind 9 kf, cI aC m_figure 9 ff, cI aC m_offer 81 oc, cI aC m_buys 9 f_35, oX12 g0 m_refused m_kind m_figure m_weight m_got m_setting (nI n) msy mdn m_tape m_letter m_letterAt m_told tp mat stm m_kept him ki crs m_price m_offer m_gets m_yes m_buys m_ends m_carried m_row rm m_keptRow m_likeGets m_likePrice m_ahead, cI aC m_weight 9 wf, cI aC m_setting 5 stf, cI aC m_price 81 pf] → va_S A s.heap H locs → lv_has ls 3 [(0, Value.ref g0), (1, Value.int (nI i)), (2, Value.int (nI m9))] → W p l e (headSpec (wW yX12_findOffer cX12_findOffer 3 (none : Option FieldType)) ({ frames := 2, cells := 0, slots := 0, locals := 50 } : Room)).room s m ([Value.ref g0, Value.int (nI i)] : List Value).toArray below meth c H locs 0 0 (MQ below (va_Qv (fun (u : (Nat → Int32) × (Nat → Int32)) => match u with | (of2, bf2) => (∀ q, q < n → of2 (9 * i + q) = nI ((zO pl i) q)) ∧ bf2 i = zB pl i ∧ (∀ k, k < 9 * i ∨ 9 * i + 9 ≤ k → of2 k = of k) ∧ ∀ q, q ≠ i → bf2 q = bf q) (fun (u : (Nat → Int32) × (Nat → Int32)) (t : State) => match u with | (of2, bf2) => va_P (dC, dI) classes [oX12 g0 m_refused m_kind m_figure m_weight m_got m_setting (nI n) msy mdn m_tape m_letter m_letterAt m_told tp mat stm m_kept him ki crs m_price m_offer m_gets m_yes m_buys m_ends m_carried m_row rm m_keptRow m_likeGets m_likePrice m_ahead, cI aC m_kind 9 kf, cI aC m_figure 9 ff, cI aC m_weight 9 wf, cI aC m_setting 5 stf, cI aC m_price 81 pf, cI aC m_offer 81 of2, cI aC m_buys 9 bf2] t.heap ∧ va_K (dC, dI) classes (TY aC) t ∧ va_D A [oX12 g0 m_refused m_kind m_figure m_weight m_got m_setting (nI n) msy mdn m_tape m_letter m_letterAt m_told tp mat stm m_kept him ki crs m_price m_offer m_gets m_yes m_buys m_ends m_carried m_row rm m_keptRow m_likeGets m_likePrice m_ahead, cI aC m_kind 9 kf, cI aC m_figure 9 ff, cI aC m_weight 9 wf, cI aC m_setting 5 stf, cI aC m_price 81 pf, cI aC m_offer 81 of2, cI aC m_buys 9 bf2]) A) ([Value.ref g0, Value.int (nI i)] : List Value).toArray s 0 0 A) (F0 m 80 ls []) := by
            intro fu
            induction fu with
            | zero => intro m9 oc hfu; exact absurd hfu (Nat.not_lt_zero _)
            | succ fu ih_80 =>
              intro m9 oc hfu hm9 hrow hfr2 H locs ls hP hD hS hl
              refine lv_iload_n hx hb dX12_findOffer_80 rfl (lv_at hl 2 rfl) ?_
              refine lv_aload_n hx hb dX12_findOffer_81 rfl (lv_at hl 0 rfl) ?_
              refine va_get (D := (dC, dI)) (ci := 12) (v := Value.int (nI n)) (C := RX12) (T := TX12) (N := 33) hx hb hts inX12 hown hK hP 4 rfl rfl 6 (by decide) (hts _ (gw kw_723 rfl)) (fun _ h9 => h9) rfl dX12_findOffer_82 ?_
              refine lv_icmp_ge (tgt := 134) hx hb dX12_findOffer_85 (by decide) (fun c_37 => ?_) (fun c_37 => ?_)
              · have hmn : m9 = n := by
                  rcases Nat.lt_or_ge m9 n with q | q
                  · exact absurd c_37 (nI_ge q (by omega))
                  · omega
                have hrw : ∀ q, q < n → oc (9 * i + q) = nI ((BO cq i (zP pl i) s9 n) q) := fun q hq => by rw [hrow q hq, hmn]
                have hfin9 := or_fin hpl hin hn8 hkle (of_by hKb hbuy) hrw
                rw [← hri] at hfin9
                have hpost : (∀ q, q < n → oc (9 * i + q) = nI ((zO pl i) q)) ∧ f_35 i = zB pl i ∧ (∀ k, k < 9 * i ∨ 9 * i + 9 ≤ k → oc k = of k) ∧ ∀ q, q ≠ i → f_35 q = bf q := ⟨hfin9.1, hfin9.2, hfr2, hro⟩
                refine lv_goto (tgt := 208) hx hb dX12_findOffer_134 (by decide) ?_
                have hpd9 := pd_N (cx := [oX12 g0 m_refused m_kind m_figure m_weight m_got m_setting (nI n) msy mdn m_tape m_letter m_letterAt m_told tp mat stm m_kept him ki crs m_price m_offer m_gets m_yes m_buys m_ends m_carried m_row rm m_keptRow m_likeGets m_likePrice m_ahead, cI aC m_kind 9 kf, cI aC m_figure 9 ff, cI aC m_weight 9 wf, cI aC m_setting 5 stf, cI aC m_price 81 pf, cI aC m_offer 81 oc, cI aC m_buys 9 f_35]) hP hD [4, 0, 1, 5, 6, 7, 2, 3] (by decide) rfl
                have hP9 := hpd9.1
                have hD9 := hpd9.2
                refine W.widen (k := 0) (n := 0) (by omega) (by omega) ?_
                exact W.vret hx hb hr (fun t ht hW => ⟨⟨(oc, f_35), rfl, hpost, by rw [ht]; exact hP9, va_K.moved hW.alike hK, hD9⟩, hS.F ht⟩) hS.2.2 dX12_findOffer_208
              · have hlt : m9 < n := by
                  rcases Nat.lt_or_ge m9 n with q | q
                  · exact q
                  · exact absurd (nI_le q (by omega)) c_37
                refine lv_aload_n hx hb dX12_findOffer_88 rfl (lv_at hl 0 rfl) ?_
                refine va_get (D := (dC, dI)) (ci := 12) (v := Value.ref m_buys) (C := RX12) (T := TX12) (N := 33) hx hb hts inX12 hown hK hP 4 rfl rfl 24 (by decide) (hts _ (gw kw_741 rfl)) (fun _ h9 => h9) rfl dX12_findOffer_89 ?_
                refine lv_iload_n hx hb dX12_findOffer_92 rfl (lv_at hl 1 rfl) ?_
                have h_38 : vp_in (nI i) 9 := by first | exact vp_in_nI (by omega) (by omega) | (unfold vp_in; decide) | (subst_vars; first | (unfold vp_in; decide) | exact vp_in_nI (by omega) (by omega))
                refine va_iald hx hb hK hP 3 0 rfl rfl h_38 dX12_findOffer_93 ?_
                refine lv_topi (fun x_39 e_39 => ?_)
                have h9 : x_33 = x_39 := Eq.symm (show x_39 = x_33 from by rw [e_39, nI_clamp (by omega)]; exact hri)
                subst h9
                refine lv_if_lt (tgt := 134) hx hb dX12_findOffer_94 (by decide) (fun c_40 => ?_) (fun c_40 => ?_)
                · have hs0 : s9 = 0 := (hsr.resolve_right (fun h => absurd c_40 (by rw [h.1]; have := p28 hn8; exact nI_pos (by omega)))).2
                  have hrw : ∀ q, q < n → oc (9 * i + q) = nI ((BO cq i (zP pl i) s9 n) q) := fun q hq => by rw [hrow q hq, hs0, BO_z, BO_z]
                  have hfin9 := or_fin hpl hin hn8 hkle (of_by hKb hbuy) hrw
                  rw [← hri] at hfin9
                  have hpost : (∀ q, q < n → oc (9 * i + q) = nI ((zO pl i) q)) ∧ f_35 i = zB pl i ∧ (∀ k, k < 9 * i ∨ 9 * i + 9 ≤ k → oc k = of k) ∧ ∀ q, q ≠ i → f_35 q = bf q := ⟨hfin9.1, hfin9.2, hfr2, hro⟩
                  refine lv_goto (tgt := 208) hx hb dX12_findOffer_134 (by decide) ?_
                  have hpd9 := pd_N (cx := [oX12 g0 m_refused m_kind m_figure m_weight m_got m_setting (nI n) msy mdn m_tape m_letter m_letterAt m_told tp mat stm m_kept him ki crs m_price m_offer m_gets m_yes m_buys m_ends m_carried m_row rm m_keptRow m_likeGets m_likePrice m_ahead, cI aC m_kind 9 kf, cI aC m_figure 9 ff, cI aC m_weight 9 wf, cI aC m_setting 5 stf, cI aC m_price 81 pf, cI aC m_offer 81 oc, cI aC m_buys 9 f_35]) hP hD [4, 0, 1, 5, 6, 7, 2, 3] (by decide) rfl
                  have hP9 := hpd9.1
                  have hD9 := hpd9.2
                  refine W.widen (k := 0) (n := 0) (by omega) (by omega) ?_
                  exact W.vret hx hb hr (fun t ht hW => ⟨⟨(oc, f_35), rfl, hpost, by rw [ht]; exact hP9, va_K.moved hW.alike hK, hD9⟩, hS.F ht⟩) hS.2.2 dX12_findOffer_208
                · obtain ⟨hs1, hs2, hs3, hs4⟩ := hsr.resolve_left (fun h => c_40 (by rw [h.1]; decide))
                  refine lv_aload_n hx hb dX12_findOffer_97 rfl (lv_at hl 0 rfl) ?_
                  refine va_get (D := (dC, dI)) (ci := 12) (v := Value.ref m_buys) (C := RX12) (T := TX12) (N := 33) hx hb hts inX12 hown hK hP 4 rfl rfl 24 (by decide) (hts _ (gw kw_741 rfl)) (fun _ h9 => h9) rfl dX12_findOffer_98 ?_
                  refine lv_iload_n hx hb dX12_findOffer_101 rfl (lv_at hl 1 rfl) ?_
                  have h_41 : vp_in (nI i) 9 := by first | exact vp_in_nI (by omega) (by omega) | (unfold vp_in; decide) | (subst_vars; first | (unfold vp_in; decide) | exact vp_in_nI (by omega) (by omega))
                  refine va_iald hx hb hK hP 3 0 rfl rfl h_41 dX12_findOffer_102 ?_
                  refine lv_topi (fun x_42 e_42 => ?_)
                  have h9 : x_33 = x_42 := Eq.symm (show x_42 = x_33 from by rw [e_42, nI_clamp (by omega)]; exact hri)
                  subst h9
                  refine lv_iload_n hx hb dX12_findOffer_103 rfl (lv_at hl 2 rfl) ?_
                  refine lv_ishr hx hb dX12_findOffer_104 ?_
                  refine lv_topi (fun x_43 e_43 => ?_)
                  refine lv_iconst (v := 1) hx hb dX12_findOffer_105 (by decide) ?_
                  refine lv_iand hx hb dX12_findOffer_106 ?_
                  refine lv_topi (fun x_44 e_44 => ?_)
                  refine lv_iconst (v := 1) hx hb dX12_findOffer_107 (by decide) ?_
                  refine lv_icmp_ne (tgt := 128) hx hb dX12_findOffer_108 (by decide) (fun c_45 => ?_) (fun c_45 => ?_)
                  · have hbt : s9.testBit m9 = false := by rw [← bt_of hn8 hs2 hlt hs1]; exact Bool.eq_false_iff.mpr (fun q => c_45 (by rw [e_44, e_43]; exact (b_tst (by omega)).mpr q))
                    have hb1 : ∀ q, q < n → oc (9 * i + q) = nI ((BO cq i (zP pl i) s9 (m9 + 1)) q) := fun q hq => by rw [BO_n hm9.1 hbt]; exact hrow q hq
                    have hb2 := hfr2
                    obtain ⟨x_46, e_46⟩ : ∃ y : Int32, y = (nI m9) + 1 := ⟨_, rfl⟩
                    refine lv_iinc (v := x_46) (lv' := [(2, Value.int x_46), (0, Value.ref g0), (1, Value.int (nI i))]) hx hb dX12_findOffer_128 hl (k := 2) rfl (by rw [e_46]; rfl) (by decide) rfl (fun ls hl => ?_)
                    have h9 : x_46 = nI (m9 + 1) := by rw [e_46, nI_1]
                    subst h9
                    refine lv_goto (tgt := 80) hx hb dX12_findOffer_131 (by decide) ?_
                    exact ih_80 (m9 + 1) oc (ms_lt hlt hfu) (by omega) (hb1) (hb2) _ _ _ (hP.sub [0, 1, 2, 3, 4, 5, 6, 7] rfl) (hD.sub [0, 1, 2, 3, 4, 5, 6, 7] (by decide) rfl) hS (lv_sub hl [1, 2, 0] rfl)
                  · have hbt : s9.testBit m9 = true := by rw [← bt_of hn8 hs2 hlt hs1]; exact (b_tst (by omega)).mp (by rw [← e_43, ← e_44]; exact c_45)
                    have hle := BO_le ⟨hm9.1, hlt⟩ hbt hs4
                    have hl9 := BO_9 (i := i) (Pq := zP pl i) (s := s9) (m := m9) hev.2.1
                    refine lv_aload_n hx hb dX12_findOffer_111 rfl (lv_at hl 0 rfl) ?_
                    refine lv_iload_n hx hb dX12_findOffer_112 rfl (lv_at hl 1 rfl) ?_
                    refine lv_iload_n hx hb dX12_findOffer_113 rfl (lv_at hl 2 rfl) ?_
                    refine lv_aload_n hx hb dX12_findOffer_114 rfl (lv_at hl 0 rfl) ?_
                    refine va_get (D := (dC, dI)) (ci := 12) (v := Value.ref m_price) (C := RX12) (T := TX12) (N := 33) hx hb hts inX12 hown hK hP 4 rfl rfl 20 (by decide) (hts _ (gw kw_737 rfl)) (fun _ h9 => h9) rfl dX12_findOffer_115 ?_
                    refine lv_bipush (v := 9) hx hb dX12_findOffer_118 (by decide) ?_
                    refine lv_iload_n hx hb dX12_findOffer_120 rfl (lv_at hl 1 rfl) ?_
                    refine lv_imul hx hb dX12_findOffer_121 ?_
                    refine lv_topi (fun x_47 e_47 => ?_)
                    have h9 : x_47 = nI (9 * i) := by rw [e_47]; exact pk_mul 9 i
                    subst h9
                    refine lv_iload_n hx hb dX12_findOffer_122 rfl (lv_at hl 2 rfl) ?_
                    refine lv_iadd hx hb dX12_findOffer_123 ?_
                    refine lv_topi (fun x_48 e_48 => ?_)
                    have h9 : x_48 = nI (9 * i + m9) := by rw [e_48, nI_add]
                    subst h9
                    have h_49 : vp_in (nI (9 * i + m9)) 81 := by first | exact vp_in_nI (by omega) (by omega) | (unfold vp_in; decide) | (subst_vars; first | (unfold vp_in; decide) | exact vp_in_nI (by omega) (by omega))
                    refine va_iald hx hb hK hP 7 0 rfl rfl h_49 dX12_findOffer_124 ?_
                    refine lv_topi (fun x_50 e_50 => ?_)
                    have h9 : x_50 = nI (zP pl i m9) := by rw [e_50, nI_clamp (by omega)]; exact hPq m9 hm9.1 hlt
                    subst h9
                    have hpd9 := pdf_N (cx := [oX12 g0 m_refused m_kind m_figure m_weight m_got m_setting (nI n) msy mdn m_tape m_letter m_letterAt m_told tp mat stm m_kept him ki crs m_price m_offer m_gets m_yes m_buys m_ends m_carried m_row rm m_keptRow m_likeGets m_likePrice m_ahead, cI aC m_offer 81 oc]) hP hD hS hA [4, 2] (by decide) rfl
                    have hPc := hpd9.1
                    have hDc := hpd9.2.1
                    have hFc := hpd9.2.2
                    clear hpd9
                    refine va_callv (va_runV (As := [Value.int (nI i), Value.int (nI m9), Value.int (nI (zP pl i m9))]) (rest := []) ⟨hx, hb, hml, hown, hts⟩ (c_X12_offersEach l dC dI aC H.size g0 m_refused m_kind m_figure m_weight m_got m_setting m_tape m_letter m_letterAt m_told m_kept m_price m_offer m_gets m_yes m_buys m_ends m_carried m_row m_keptRow m_likeGets m_likePrice m_ahead msy mdn tp mat stm him ki crs rm n oc i m9 (zP pl i m9) (BO cq i (zP pl i) s9 m9 i) (by omega) (hrow i (by omega)) (⟨hle, hl9⟩)) ⟨(callB_of 3 hts (gG kw_945) rfl rfl rfl (hts _ (gw kw_13 rfl)) (hts _ (gw kw_942 rfl)) hd_X12_offersEach ⟨Nat.le_of_ble_eq_true rfl, Nat.le_of_ble_eq_true rfl⟩), (hts _ (gw kw_944 rfl)), (hts _ (gw ks_55 rfl))⟩ ⟨fb_std, va_recv (q := (RX12, TX12, 33)) hK hPc (ci := 12) (q0 := 0) rfl rfl, pre_std hPc hK hDc hN⟩ rfl rfl hl.1 rfl (lv_room (Nat.le_of_ble_eq_true rfl)) dX12_findOffer_125 ⟨Nat.le_of_ble_eq_true rfl, Nat.le_of_ble_eq_true rfl⟩) hS (fun q _ h => hFc q h) hFc (fun u9 t9 H1 locs ht hvm hw_51 hB hz1 hk1 hS => ?_)
                    obtain ⟨u_52, rfl⟩ : ∃ z, z = u9 := ⟨_, rfl⟩
                    obtain ⟨hP1, hK1, hD1⟩ := hB
                    rw [ht] at hP1
                    clear hK1
                    try dsimp only at hw_51
                    have hpd9 : PDx (dC, dI) classes A H1 [cI aC m_kind 9 kf, cI aC m_figure 9 ff, cI aC m_buys 9 f_35, cI aC m_weight 9 wf, cI aC m_setting 5 stf, cI aC m_price 81 pf, oX12 g0 m_refused m_kind m_figure m_weight m_got m_setting (nI n) msy mdn m_tape m_letter m_letterAt m_told tp mat stm m_kept him ki crs m_price m_offer m_gets m_yes m_buys m_ends m_carried m_row rm m_keptRow m_likeGets m_likePrice m_ahead, cI aC m_offer 81 u_52] := jn_N (wr := [cI aC m_kind 9 kf, cI aC m_figure 9 ff, cI aC m_buys 9 f_35, cI aC m_weight 9 wf, cI aC m_setting 5 stf, cI aC m_price 81 pf]) hFc hk1 hP1 hD1 hP hD [4, 2] [0, 1, 3, 5, 6, 7] rfl rfl (by decide) (by decide)
                    have hP := hpd9.1
                    have hD := hpd9.2
                    clear hpd9
                    generalize H1 = H at hP hS ⊢
                    clear hPc hDc hFc hz1 hk1 hP1 hD1 ht hvm
                    have hb1 : ∀ q, q < n → u_52 (9 * i + q) = nI ((BO cq i (zP pl i) s9 (m9 + 1)) q) := oe_row (j := m9) (by omega) hw_51 rfl hrow (fun q _ => BO_y hm9.1 hbt)
                    have hb2 := oe_fr (by omega) hw_51 hfr2
                    obtain ⟨x_53, e_53⟩ : ∃ y : Int32, y = (nI m9) + 1 := ⟨_, rfl⟩
                    refine lv_iinc (v := x_53) (lv' := [(2, Value.int x_53), (0, Value.ref g0), (1, Value.int (nI i))]) hx hb dX12_findOffer_128 hl (k := 2) rfl (by rw [e_53]; rfl) (by decide) rfl (fun ls hl => ?_)
                    have h9 : x_53 = nI (m9 + 1) := by rw [e_53, nI_1]
                    subst h9
                    refine lv_goto (tgt := 80) hx hb dX12_findOffer_131 (by decide) ?_
                    exact ih_80 (m9 + 1) u_52 (ms_lt hlt hfu) (by omega) (hb1) (hb2) _ _ _ (hP.sub [0, 1, 7, 2, 6, 3, 4, 5] rfl) (hD.sub [0, 1, 7, 2, 6, 3, 4, 5] (by decide) rfl) hS (lv_sub hl [1, 2, 0] rfl)
          exact lp_80 ((n - (i + 1)) + 1) (i + 1) f_7 (Nat.lt_succ_self _) (by omega) (fun q hq => by rw [BO_0]; exact hO1 q hq) (hfr1) _ _ _ (hP.sub [0, 1, 2, 3, 4, 5, 6, 7] rfl) (hD.sub [0, 1, 2, 3, 4, 5, 6, 7] (by decide) rfl) hS (lv_sub hl [1, 2, 0] rfl)
      · have hlt : m9 < n := by
          rcases Nat.lt_or_ge m9 n with q | q
          · exact q
          · exact absurd (nI_le q (by omega)) c_1
        refine lv_aload_n hx hb dX12_findOffer_10 rfl (lv_at hl 0 rfl) ?_
        refine va_get (D := (dC, dI)) (ci := 12) (v := Value.ref m_offer) (C := RX12) (T := TX12) (N := 33) hx hb hts inX12 hown hK hP 0 rfl rfl 21 (by decide) (hts _ (gw kw_738 rfl)) (fun _ h9 => h9) rfl dX12_findOffer_11 ?_
        refine lv_bipush (v := 9) hx hb dX12_findOffer_14 (by decide) ?_
        refine lv_iload_n hx hb dX12_findOffer_16 rfl (lv_at hl 1 rfl) ?_
        refine lv_imul hx hb dX12_findOffer_17 ?_
        refine lv_topi (fun x_54 e_54 => ?_)
        have h9 : x_54 = nI (9 * i) := by rw [e_54]; exact pk_mul 9 i
        subst h9
        refine lv_iload_n hx hb dX12_findOffer_18 rfl (lv_at hl 2 rfl) ?_
        refine lv_iadd hx hb dX12_findOffer_19 ?_
        refine lv_topi (fun x_55 e_55 => ?_)
        have h9 : x_55 = nI (9 * i + m9) := by rw [e_55, nI_add]
        subst h9
        refine lv_iconst (v := 0) hx hb dX12_findOffer_20 (by decide) ?_
        have h_56 : vp_in (nI (9 * i + m9)) 81 := by first | exact vp_in_nI (by omega) (by omega) | (unfold vp_in; decide) | (subst_vars; first | (unfold vp_in; decide) | exact vp_in_nI (by omega) (by omega))
        refine va_iast hx hb hK hP hD hS 6 0 rfl rfl h_56 dX12_findOffer_21 (fun H locs hP hD hS => ?_)
        obtain ⟨f_57, e_f_57⟩ : ∃ y : Nat → Int32, y = upd oc (nI (9 * i + m9) : Int32).toNatClampNeg 0 := ⟨_, rfl⟩
        have hpd9 : PDx (dC, dI) classes A H [oX12 g0 m_refused m_kind m_figure m_weight m_got m_setting (nI n) msy mdn m_tape m_letter m_letterAt m_told tp mat stm m_kept him ki crs m_price m_offer m_gets m_yes m_buys m_ends m_carried m_row rm m_keptRow m_likeGets m_likePrice m_ahead, cI aC m_kind 9 kf, cI aC m_figure 9 ff, cI aC m_weight 9 wf, cI aC m_setting 5 stf, cI aC m_price 81 pf, cI aC m_offer 81 f_57, cI aC m_buys 9 bf] := by rw [e_f_57]; exact ⟨hP, hD⟩
        have hP := hpd9.1
        have hD := hpd9.2
        clear hpd9
        obtain ⟨x_58, e_58⟩ : ∃ y : Int32, y = (nI m9) + 1 := ⟨_, rfl⟩
        refine lv_iinc (v := x_58) (lv' := [(2, Value.int x_58), (0, Value.ref g0), (1, Value.int (nI i))]) hx hb dX12_findOffer_22 hl (k := 2) rfl (by rw [e_58]; rfl) (by decide) rfl (fun ls hl => ?_)
        have h9 : x_58 = nI (m9 + 1) := by rw [e_58, nI_1]
        subst h9
        refine lv_goto (tgt := 2) hx hb dX12_findOffer_25 (by decide) ?_
        exact ih_2 (m9 + 1) f_57 (ms_lt hlt hfu) (by omega) (fun q hq => by rw [e_f_57, nI_clamp (by omega)]; by_cases e : q = m9 <;> first | (rw [e, pk_us]; rfl) | (rw [pk_un (by omega)]; exact hz q (by omega))) (fun k hk => by rw [e_f_57, nI_clamp (by omega), pk_un (by omega)]; exact hfr k hk) _ _ _ (hP.sub [0, 1, 2, 3, 4, 5, 6, 7] rfl) (hD.sub [0, 1, 2, 3, 4, 5, 6, 7] (by decide) rfl) hS (lv_sub hl [1, 2, 0] rfl)
  exact lp_2 ((n - 0) + 1) 0 of (Nat.lt_succ_self _) (Nat.zero_le _) (fun q h => by omega) (fun k _ => rfl) _ _ _ (hP.sub [0, 1, 2, 3, 4, 5, 6, 7] rfl) (hD.sub [0, 1, 2, 3, 4, 5, 6, 7] (by decide) rfl) hS (lv_sub hl [1, 2, 0] rfl)

end

section
/-! 52.ref4 -/
theorem vr_n {x y : Int32} {i j : Nat} {P O : Nat → Nat} (hx : ∀ b, b < 32 → bt x b = decide (b = i ∨ (i < b ∧ b < j ∧ P b ≤ O b))) (hy : y = x ||| 0) (hP : ¬ P j ≤ O j) : ∀ b, b < 32 → bt y b = decide (b = i ∨ (i < b ∧ b < j + 1 ∧ P b ≤ O b)) := by
  intro b hb
  rw [hy, b_or, b_0, Bool.or_false]
  exact vt_n hx hP b hb
theorem zY_ge {n : Nat} {K F W : Nat → Nat} {cq : Nat} {law tie fst : Int32} {pl : PLT} (h : PLAN n K F W cq law tie fst pl) {i : Nat} (hi : i < n) : (∀ b, b < 32 → bt (zY pl i) b = true → i ≤ b) ∧ (i < 32 → bt (zY pl i) i = true) := by
  refine ⟨fun b hb z => ?_, fun h8 => ?_⟩
  · rw [(h i hi).1.2.2.1 b hb] at z
    have := of_decide_eq_true z
    omega
  · rw [(h i hi).1.2.2.1 i h8]
    exact decide_eq_true (Or.inl rfl)
theorem HW1_of {n : Nat} {K F W : Nat → Nat} {cq : Nat} {kf ff wf stf : Nat → Int32} (h : EVH n K F W cq kf ff wf stf) : ∀ j, j < n → 1 ≤ W j := fun j hj => (h.2.2.2 j hj).2.2.2.1

set_option maxHeartbeats 1000000 in
set_option maxRecDepth 100000 in
/-- X12_solves -/
theorem c_X12_solves (l : Launch) (dC : Nat → ClassId) (dI : Nat → Nat → Nat) (aC : Nat → ClassId) (sz : Nat) (g0 : Nat) (m_refused : Nat) (m_kind : Nat) (m_figure : Nat) (m_weight : Nat) (m_got : Nat) (m_setting : Nat) (m_tape : Nat) (m_letter : Nat) (m_letterAt : Nat) (m_told : Nat) (m_kept : Nat) (m_price : Nat) (m_offer : Nat) (m_gets : Nat) (m_yes : Nat) (m_buys : Nat) (m_ends : Nat) (m_carried : Nat) (m_row : Nat) (m_keptRow : Nat) (m_likeGets : Nat) (m_likePrice : Nat) (m_ahead : Nat) (msy : Int32) (mdn : Int32) (tp : Int32) (mat : Int32) (stm : Int32) (him : Int32) (ki : Int32) (crs : Int32) (rm : Int32) (n : Nat) (kf : Nat → Int32) (ff : Nat → Int32) (wf : Nat → Int32) (stf : Nat → Int32) (pf : Nat → Int32) (of : Nat → Int32) (gf : Nat → Int32) (yf : Nat → Int32) (bf : Nat → Int32) (ef : Nat → Int32) (cf : Nat → Int32) (K : Nat → Nat) (F : Nat → Nat) (W0 : Nat → Nat) (cq : Nat) (pl : PLT) (i : Nat) (hev : EVH n K F W0 cq kf ff wf stf) (hpl : PLAN n K F W0 cq (stf 1) (stf 2) (stf 3) pl) (hin : i < n) (hm1 : i + 1 < n → MMT n W0 (stf 1) pl pf of gf yf bf ef cf (i + 1)) : Met l yX12_solves (wW yX12_solves cX12_solves 3 (none : Option FieldType)) ({ frames := 3, cells := 0, slots := 0, locals := 72 } : Room) (va_Pc [Value.ref g0, Value.int (nI i)] (fun U => U.heap.size = sz ∧ va_P (dC, dI) classes [oX12 g0 m_refused m_kind m_figure m_weight m_got m_setting (nI n) msy mdn m_tape m_letter m_letterAt m_told tp mat stm m_kept him ki crs m_price m_offer m_gets m_yes m_buys m_ends m_carried m_row rm m_keptRow m_likeGets m_likePrice m_ahead, cI aC m_kind 9 kf, cI aC m_figure 9 ff, cI aC m_weight 9 wf, cI aC m_setting 5 stf, cI aC m_price 81 pf, cI aC m_offer 81 of, cI aC m_gets 90 gf, cI aC m_yes 9 yf, cI aC m_buys 9 bf, cI aC m_ends 9 ef, cI aC m_carried 9 cf] U.heap ∧ va_K (dC, dI) classes (TY aC) U ∧ va_D (fun _ => True) [oX12 g0 m_refused m_kind m_figure m_weight m_got m_setting (nI n) msy mdn m_tape m_letter m_letterAt m_told tp mat stm m_kept him ki crs m_price m_offer m_gets m_yes m_buys m_ends m_carried m_row rm m_keptRow m_likeGets m_likePrice m_ahead, cI aC m_kind 9 kf, cI aC m_figure 9 ff, cI aC m_weight 9 wf, cI aC m_setting 5 stf, cI aC m_price 81 pf, cI aC m_offer 81 of, cI aC m_gets 90 gf, cI aC m_yes 9 yf, cI aC m_buys 9 bf, cI aC m_ends 9 ef, cI aC m_carried 9 cf] ∧ NX U)) (va_Qv (fun (u : (Nat → Int32) × (Nat → Int32) × (Nat → Int32) × (Nat → Int32) × (Nat → Int32) × (Nat → Int32) × (Nat → Int32)) => match u with | (pf2, of2, gf2, yf2, bf2, ef2, cf2) => MMT n W0 (stf 1) pl pf2 of2 gf2 yf2 bf2 ef2 cf2 i ∧ (∀ k, k < 9 * i ∨ 9 * i + 9 ≤ k → pf2 k = pf k ∧ of2 k = of k ∧ gf2 k = gf k) ∧ ∀ q, q ≠ i → yf2 q = yf q ∧ bf2 q = bf q ∧ ef2 q = ef q ∧ cf2 q = cf q) (fun (u : (Nat → Int32) × (Nat → Int32) × (Nat → Int32) × (Nat → Int32) × (Nat → Int32) × (Nat → Int32) × (Nat → Int32)) (t : State) => match u with | (pf2, of2, gf2, yf2, bf2, ef2, cf2) => va_P (dC, dI) classes [oX12 g0 m_refused m_kind m_figure m_weight m_got m_setting (nI n) msy mdn m_tape m_letter m_letterAt m_told tp mat stm m_kept him ki crs m_price m_offer m_gets m_yes m_buys m_ends m_carried m_row rm m_keptRow m_likeGets m_likePrice m_ahead, cI aC m_kind 9 kf, cI aC m_figure 9 ff, cI aC m_weight 9 wf, cI aC m_setting 5 stf, cI aC m_price 81 pf2, cI aC m_offer 81 of2, cI aC m_gets 90 gf2, cI aC m_yes 9 yf2, cI aC m_buys 9 bf2, cI aC m_ends 9 ef2, cI aC m_carried 9 cf2] t.heap ∧ va_K (dC, dI) classes (TY aC) t ∧ va_D (va_A [oX12 g0 m_refused m_kind m_figure m_weight m_got m_setting (nI n) msy mdn m_tape m_letter m_letterAt m_told tp mat stm m_kept him ki crs m_price m_offer m_gets m_yes m_buys m_ends m_carried m_row rm m_keptRow m_likeGets m_likePrice m_ahead, cI aC m_kind 9 kf, cI aC m_figure 9 ff, cI aC m_weight 9 wf, cI aC m_setting 5 stf, cI aC m_price 81 pf, cI aC m_offer 81 of, cI aC m_gets 90 gf, cI aC m_yes 9 yf, cI aC m_buys 9 bf, cI aC m_ends 9 ef, cI aC m_carried 9 cf] sz) [oX12 g0 m_refused m_kind m_figure m_weight m_got m_setting (nI n) msy mdn m_tape m_letter m_letterAt m_told tp mat stm m_kept him ki crs m_price m_offer m_gets m_yes m_buys m_ends m_carried m_row rm m_keptRow m_likeGets m_likePrice m_ahead, cI aC m_kind 9 kf, cI aC m_figure 9 ff, cI aC m_weight 9 wf, cI aC m_setting 5 stf, cI aC m_price 81 pf2, cI aC m_offer 81 of2, cI aC m_gets 90 gf2, cI aC m_yes 9 yf2, cI aC m_buys 9 bf2, cI aC m_ends 9 ef2, cI aC m_carried 9 cf2]) (va_A [oX12 g0 m_refused m_kind m_figure m_weight m_got m_setting (nI n) msy mdn m_tape m_letter m_letterAt m_told tp mat stm m_kept him ki crs m_price m_offer m_gets m_yes m_buys m_ends m_carried m_row rm m_keptRow m_likeGets m_likePrice m_ahead, cI aC m_kind 9 kf, cI aC m_figure 9 ff, cI aC m_weight 9 wf, cI aC m_setting 5 stf, cI aC m_price 81 pf, cI aC m_offer 81 of, cI aC m_gets 90 gf, cI aC m_yes 9 yf, cI aC m_buys 9 bf, cI aC m_ends 9 ef, cI aC m_carried 9 cf] sz)) 0 0 (va_A [oX12 g0 m_refused m_kind m_figure m_weight m_got m_setting (nI n) msy mdn m_tape m_letter m_letterAt m_told tp mat stm m_kept him ki crs m_price m_offer m_gets m_yes m_buys m_ends m_carried m_row rm m_keptRow m_likeGets m_likePrice m_ahead, cI aC m_kind 9 kf, cI aC m_figure 9 ff, cI aC m_weight 9 wf, cI aC m_setting 5 stf, cI aC m_price 81 pf, cI aC m_offer 81 of, cI aC m_gets 90 gf, cI aC m_yes 9 yf, cI aC m_buys 9 bf, cI aC m_ends 9 ef, cI aC m_carried 9 cf] sz) := by
  refine Met.ofW (cc := cX12_solves) (maxL := 3) (ret := (none : Option FieldType)) (by decide) rfl ?_
  intro p e s m args below meth c s₁ B hml hv
  obtain ⟨rfl, hsz, hP, hK, hD0, hN⟩ := hv
  have hx := B.exec
  have hb := B.bytes
  have hr := B.returns
  have hts0 := atoms_spec (ws := (wW yX12_solves cX12_solves 3 (none : Option FieldType))) B.pre
  have hts : ∀ w9 ∈ lw_G, w9.before ([Value.ref g0, Value.int (nI i)] : List Value).toArray s = true := fun w9 h9 => hts0 w9 (List.mem_cons_of_mem _ h9)
  have hown : s.vm.findClass RX12 = some m.cls := findClass_of_methodNamed (x := yX12_solves) B.named
  have hlocks := B.notSynchronized
  subst hsz
  have hD := hD0.self (sz := s.heap.size)
  generalize hAe : va_A [oX12 g0 m_refused m_kind m_figure m_weight m_got m_setting (nI n) msy mdn m_tape m_letter m_letterAt m_told tp mat stm m_kept him ki crs m_price m_offer m_gets m_yes m_buys m_ends m_carried m_row rm m_keptRow m_likeGets m_likePrice m_ahead, cI aC m_kind 9 kf, cI aC m_figure 9 ff, cI aC m_weight 9 wf, cI aC m_setting 5 stf, cI aC m_price 81 pf, cI aC m_offer 81 of, cI aC m_gets 90 gf, cI aC m_yes 9 yf, cI aC m_buys 9 bf, cI aC m_ends 9 ef, cI aC m_carried 9 cf] s.heap.size = A at hD ⊢
  have hA : ∀ q : Nat, s.heap.size ≤ q → A q := fun q h => by rw [← hAe]; exact Or.inr h
  obtain ⟨H, hHe⟩ : ∃ H : Heap, H = s.heap := ⟨_, rfl⟩
  have hS : va_S A s.heap H [] := by rw [hHe]; exact va_S.rf
  have hP : va_P (dC, dI) classes [oX12 g0 m_refused m_kind m_figure m_weight m_got m_setting (nI n) msy mdn m_tape m_letter m_letterAt m_told tp mat stm m_kept him ki crs m_price m_offer m_gets m_yes m_buys m_ends m_carried m_row rm m_keptRow m_likeGets m_likePrice m_ahead, cI aC m_kind 9 kf, cI aC m_figure 9 ff, cI aC m_weight 9 wf, cI aC m_setting 5 stf, cI aC m_price 81 pf, cI aC m_offer 81 of, cI aC m_gets 90 gf, cI aC m_yes 9 yf, cI aC m_buys 9 bf, cI aC m_ends 9 ef, cI aC m_carried 9 cf] H := by rw [hHe]; exact hP
  have hl := lv_entry ([Value.ref g0, Value.int (nI i)]) (n := 3) (Nat.le_of_ble_eq_true rfl)
  rw [lg_entry_eq]
  generalize (lg_sl ([Value.ref g0, Value.int (nI i)]) ++ List.replicate (3 - (lg_sl ([Value.ref g0, Value.int (nI i)])).length) Slot.unset).toArray = ls at hl ⊢
  have hl : lv_has ls 3 [(0, Value.ref g0), (1, Value.int (nI i))] := hl
  rw [← hHe]
  have hn8 := hev.1
  have hst := (hpl i hin).1
  refine lv_iload_n hx hb dX12_solves_0 rfl (lv_at hl 1 rfl) ?_
  refine lv_iconst (v := 1) hx hb dX12_solves_1 (by decide) ?_
  refine lv_iadd hx hb dX12_solves_2 ?_
  refine lv_topi (fun x_1 e_1 => ?_)
  refine lv_istore_n (lv' := [(2, Value.int x_1), (0, Value.ref g0), (1, Value.int (nI i))]) hx hb dX12_solves_3 rfl hl (by decide) rfl (fun ls hl => ?_)
  have h9 : x_1 = nI (i + 1) := by rw [e_1, nI_1]
  subst h9
  have lp_4 : ∀ (fu : Nat) (j : Nat) (pc9 : Nat → Int32) (hfu : n - j < fu) (hj : i < j ∧ j ≤ n) (hp1 : ∀ q, i < q → q < j → pc9 (9 * i + q) = nI (zP pl i q)) (hpfr : ∀ k, k < 9 * i ∨ 9 * i + 9 ≤ k → pc9 k = pf k) (H : Heap) (locs : List Loc) (ls : Array Slot), va_P (dC, dI) classes [oX12 g0 m_refused m_kind m_figure m_weight m_got m_setting (nI n) msy mdn m_tape m_letter m_letterAt m_told tp mat stm m_kept him ki crs m_price m_offer m_gets m_yes m_buys m_ends m_carried m_row rm m_keptRow m_likeGets m_likePrice m_ahead, cI aC m_kind 9 kf, cI aC m_figure 9 ff, cI aC m_weight 9 wf, cI aC m_setting 5 stf, cI aC m_price 81 pc9, cI aC m_offer 81 of, cI aC m_gets 90 gf, cI aC m_yes 9 yf, cI aC m_buys 9 bf, cI aC m_ends 9 ef, cI aC m_carried 9 cf] H → va_D A [oX12 g0 m_refused m_kind m_figure m_weight m_got m_setting (nI n) msy mdn m_tape m_letter m_letterAt m_told tp mat stm m_kept him ki crs m_price m_offer m_gets m_yes m_buys m_ends m_carried m_row rm m_keptRow m_likeGets m_likePrice m_ahead, cI aC m_kind 9 kf, cI aC m_figure 9 ff, cI aC m_weight 9 wf, cI aC m_setting 5 stf, cI aC m_price 81 pc9, cI aC m_offer 81 of, cI aC m_gets 90 gf, cI aC m_yes 9 yf, cI aC m_buys 9 bf, cI aC m_ends 9 ef, cI aC m_carried 9 cf] → va_S A s.heap H locs → lv_has ls 3 [(0, Value.ref g0), (1, Value.int (nI i)), (2, Value.int (nI j))] → W p l e (headSpec (wW yX12_solves cX12_solves 3 (none : Option FieldType)) ({ frames := 3, cells := 0, slots := 0, locals := 72 } : Room)).room s m ([Value.ref g0, Value.int (nI i)] : List Value).toArray below meth c H locs 0 0 (MQ below (va_Qv (fun (u : (Nat → Int32) × (Nat → Int32) × (Nat → Int32) × (Nat → Int32) × (Nat → Int32) × (Nat → Int32) × (Nat → Int32)) => match u with | (pf2, of2, gf2, yf2, bf2, ef2, cf2) => MMT n W0 (stf 1) pl pf2 of2 gf2 yf2 bf2 ef2 cf2 i ∧ (∀ k, k < 9 * i ∨ 9 * i + 9 ≤ k → pf2 k = pf k ∧ of2 k = of k ∧ gf2 k = gf k) ∧ ∀ q, q ≠ i → yf2 q = yf q ∧ bf2 q = bf q ∧ ef2 q = ef q ∧ cf2 q = cf q) (fun (u : (Nat → Int32) × (Nat → Int32) × (Nat → Int32) × (Nat → Int32) × (Nat → Int32) × (Nat → Int32) × (Nat → Int32)) (t : State) => match u with | (pf2, of2, gf2, yf2, bf2, ef2, cf2) => va_P (dC, dI) classes [oX12 g0 m_refused m_kind m_figure m_weight m_got m_setting (nI n) msy mdn m_tape m_letter m_letterAt m_told tp mat stm m_kept him ki crs m_price m_offer m_gets m_yes m_buys m_ends m_carried m_row rm m_keptRow m_likeGets m_likePrice m_ahead, cI aC m_kind 9 kf, cI aC m_figure 9 ff, cI aC m_weight 9 wf, cI aC m_setting 5 stf, cI aC m_price 81 pf2, cI aC m_offer 81 of2, cI aC m_gets 90 gf2, cI aC m_yes 9 yf2, cI aC m_buys 9 bf2, cI aC m_ends 9 ef2, cI aC m_carried 9 cf2] t.heap ∧ va_K (dC, dI) classes (TY aC) t ∧ va_D A [oX12 g0 m_refused m_kind m_figure m_weight m_got m_setting (nI n) msy mdn m_tape m_letter m_letterAt m_told tp mat stm m_kept him ki crs m_price m_offer m_gets m_yes m_buys m_ends m_carried m_row rm m_keptRow m_likeGets m_likePrice m_ahead, cI aC m_kind 9 kf, cI aC m_figure 9 ff, cI aC m_weight 9 wf, cI aC m_setting 5 stf, cI aC m_price 81 pf2, cI aC m_offer 81 of2, cI aC m_gets 90 gf2, cI aC m_yes 9 yf2, cI aC m_buys 9 bf2, cI aC m_ends 9 ef2, cI aC m_carried 9 cf2]) A) ([Value.ref g0, Value.int (nI i)] : List Value).toArray s 0 0 A) (F0 m 4 ls []) := by
    intro fu
    induction fu with
    | zero => intro j pc9 hfu; exact absurd hfu (Nat.not_lt_zero _)
    | succ fu ih_4 =>
      intro j pc9 hfu hj hp1 hpfr H locs ls hP hD hS hl
      refine lv_iload_n hx hb dX12_solves_4 rfl (lv_at hl 2 rfl) ?_
      refine lv_aload_n hx hb dX12_solves_5 rfl (lv_at hl 0 rfl) ?_
      refine va_get (D := (dC, dI)) (ci := 12) (v := Value.int (nI n)) (C := RX12) (T := TX12) (N := 33) hx hb hts inX12 hown hK hP 0 rfl rfl 6 (by decide) (hts _ (gw kw_723 rfl)) (fun _ h9 => h9) rfl dX12_solves_6 ?_
      refine lv_icmp_ge (tgt := 47) hx hb dX12_solves_9 (by decide) (fun c_2 => ?_) (fun c_2 => ?_)
      · have hjn : j = n := by
          rcases Nat.lt_or_ge j n with q | q
          · exact absurd c_2 (nI_ge q (by omega))
          · omega
        have hPn : ∀ q, i < q → q < n → pc9 (9 * i + q) = nI (zP pl i q) := fun q h1 h2 => hp1 q h1 (by omega)
        refine lv_aload_n hx hb dX12_solves_47 rfl (lv_at hl 0 rfl) ?_
        refine lv_iload_n hx hb dX12_solves_48 rfl (lv_at hl 1 rfl) ?_
        have hpd9 := pdf_N (cx := [oX12 g0 m_refused m_kind m_figure m_weight m_got m_setting (nI n) msy mdn m_tape m_letter m_letterAt m_told tp mat stm m_kept him ki crs m_price m_offer m_gets m_yes m_buys m_ends m_carried m_row rm m_keptRow m_likeGets m_likePrice m_ahead, cI aC m_kind 9 kf, cI aC m_figure 9 ff, cI aC m_weight 9 wf, cI aC m_setting 5 stf, cI aC m_price 81 pc9, cI aC m_offer 81 of, cI aC m_buys 9 bf]) hP hD hS hA [0, 1, 2, 3, 4, 5, 6, 9] (by decide) rfl
        have hPc := hpd9.1
        have hDc := hpd9.2.1
        have hFc := hpd9.2.2
        clear hpd9
        refine va_callv (va_runV (As := [Value.int (nI i)]) (rest := []) ⟨hx, hb, hml, hown, hts⟩ (c_X12_findOffer l dC dI aC H.size g0 m_refused m_kind m_figure m_weight m_got m_setting m_tape m_letter m_letterAt m_told m_kept m_price m_offer m_gets m_yes m_buys m_ends m_carried m_row m_keptRow m_likeGets m_likePrice m_ahead msy mdn tp mat stm him ki crs rm n kf ff wf stf pc9 of bf K F W0 cq pl i (hev) (hpl) (hin) (hPn)) ⟨(callB_of 1 hts (gG kw_911) rfl rfl rfl (hts _ (gw kw_13 rfl)) (hts _ (gw kw_908 rfl)) hd_X12_findOffer ⟨Nat.le_of_ble_eq_true rfl, Nat.le_of_ble_eq_true rfl⟩), (hts _ (gw kw_910 rfl)), (hts _ (gw ks_48 rfl))⟩ ⟨fb_std, va_recv (q := (RX12, TX12, 33)) hK hPc (ci := 12) (q0 := 0) rfl rfl, pre_std hPc hK hDc hN⟩ rfl rfl hl.1 rfl (lv_room (Nat.le_of_ble_eq_true rfl)) dX12_solves_49 ⟨Nat.le_of_ble_eq_true rfl, Nat.le_of_ble_eq_true rfl⟩) hS (fun q _ h => hFc q h) hFc (fun u9 t9 H1 locs ht hvm hw_3 hB hz1 hk1 hS => ?_)
        obtain ⟨u_4, u_5⟩ := u9
        obtain ⟨hP1, hK1, hD1⟩ := hB
        rw [ht] at hP1
        clear hK1
        try dsimp only at hw_3
        have hpd9 : PDx (dC, dI) classes A H1 [cI aC m_gets 90 gf, cI aC m_yes 9 yf, cI aC m_ends 9 ef, cI aC m_carried 9 cf, oX12 g0 m_refused m_kind m_figure m_weight m_got m_setting (nI n) msy mdn m_tape m_letter m_letterAt m_told tp mat stm m_kept him ki crs m_price m_offer m_gets m_yes m_buys m_ends m_carried m_row rm m_keptRow m_likeGets m_likePrice m_ahead, cI aC m_kind 9 kf, cI aC m_figure 9 ff, cI aC m_weight 9 wf, cI aC m_setting 5 stf, cI aC m_price 81 pc9, cI aC m_offer 81 u_4, cI aC m_buys 9 u_5] := jn_N (wr := [cI aC m_gets 90 gf, cI aC m_yes 9 yf, cI aC m_ends 9 ef, cI aC m_carried 9 cf]) hFc hk1 hP1 hD1 hP hD [0, 1, 2, 3, 4, 5, 6, 9] [7, 8, 10, 11] rfl rfl (by decide) (by decide)
        have hP := hpd9.1
        have hD := hpd9.2
        clear hpd9
        generalize H1 = H at hP hS ⊢
        clear hPc hDc hFc hz1 hk1 hP1 hD1 ht hvm
        obtain ⟨hO1, hB1, hO2, hB2⟩ := hw_3
        refine lv_aload_n hx hb dX12_solves_52 rfl (lv_at hl 0 rfl) ?_
        refine va_get (D := (dC, dI)) (ci := 12) (v := Value.ref m_yes) (C := RX12) (T := TX12) (N := 33) hx hb hts inX12 hown hK hP 4 rfl rfl 23 (by decide) (hts _ (gw kw_740 rfl)) (fun _ h9 => h9) rfl dX12_solves_53 ?_
        refine lv_iload_n hx hb dX12_solves_56 rfl (lv_at hl 1 rfl) ?_
        refine lv_iconst (v := 1) hx hb dX12_solves_57 (by decide) ?_
        refine lv_iload_n hx hb dX12_solves_58 rfl (lv_at hl 1 rfl) ?_
        refine lv_ishl hx hb dX12_solves_59 ?_
        refine lv_topi (fun x_6 e_6 => ?_)
        have h_7 : vp_in (nI i) 9 := by first | exact vp_in_nI (by omega) (by omega) | (unfold vp_in; decide) | (subst_vars; first | (unfold vp_in; decide) | exact vp_in_nI (by omega) (by omega))
        refine va_iast hx hb hK hP hD hS 1 0 rfl rfl h_7 dX12_solves_60 (fun H locs hP hD hS => ?_)
        obtain ⟨f_8, e_f_8⟩ : ∃ y : Nat → Int32, y = upd yf (nI i : Int32).toNatClampNeg x_6 := ⟨_, rfl⟩
        have hpd9 : PDx (dC, dI) classes A H [cI aC m_gets 90 gf, cI aC m_yes 9 f_8, cI aC m_ends 9 ef, cI aC m_carried 9 cf, oX12 g0 m_refused m_kind m_figure m_weight m_got m_setting (nI n) msy mdn m_tape m_letter m_letterAt m_told tp mat stm m_kept him ki crs m_price m_offer m_gets m_yes m_buys m_ends m_carried m_row rm m_keptRow m_likeGets m_likePrice m_ahead, cI aC m_kind 9 kf, cI aC m_figure 9 ff, cI aC m_weight 9 wf, cI aC m_setting 5 stf, cI aC m_price 81 pc9, cI aC m_offer 81 u_4, cI aC m_buys 9 u_5] := by rw [e_f_8]; exact ⟨hP, hD⟩
        have hP := hpd9.1
        have hD := hpd9.2
        clear hpd9
        refine lv_iload_n hx hb dX12_solves_61 rfl (lv_at hl 1 rfl) ?_
        refine lv_iconst (v := 1) hx hb dX12_solves_62 (by decide) ?_
        refine lv_iadd hx hb dX12_solves_63 ?_
        refine lv_topi (fun x_9 e_9 => ?_)
        refine lv_istore_n (lv' := [(2, Value.int x_9), (0, Value.ref g0), (1, Value.int (nI i))]) hx hb dX12_solves_64 rfl hl (by decide) rfl (fun ls hl => ?_)
        have h9 : x_9 = nI (i + 1) := by rw [e_9, nI_1]
        subst h9
        have hy10 := vt_0 (y := f_8 i) (n := n) (P := zP pl i) (O := zO pl i) (i := i) (by omega) (by rw [e_f_8, nI_clamp (by omega), pk_us]; exact e_6)
        have hy20 : ∀ q, q ≠ i → f_8 q = yf q := fun q h => by rw [e_f_8, nI_clamp (by omega), pk_un h]
        have lp_65 : ∀ (fu : Nat) (j : Nat) (yc : Nat → Int32) (hfu : n - j < fu) (hj : i < j ∧ j ≤ n) (hy1 : ∀ b, b < 32 → bt (yc i) b = decide (b = i ∨ (i < b ∧ b < j ∧ zP pl i b ≤ zO pl i b))) (hy2 : ∀ q, q ≠ i → yc q = yf q) (H : Heap) (locs : List Loc) (ls : Array Slot), va_P (dC, dI) classes [cI aC m_gets 90 gf, cI aC m_yes 9 yc, cI aC m_ends 9 ef, cI aC m_carried 9 cf, oX12 g0 m_refused m_kind m_figure m_weight m_got m_setting (nI n) msy mdn m_tape m_letter m_letterAt m_told tp mat stm m_kept him ki crs m_price m_offer m_gets m_yes m_buys m_ends m_carried m_row rm m_keptRow m_likeGets m_likePrice m_ahead, cI aC m_kind 9 kf, cI aC m_figure 9 ff, cI aC m_weight 9 wf, cI aC m_setting 5 stf, cI aC m_price 81 pc9, cI aC m_offer 81 u_4, cI aC m_buys 9 u_5] H → va_D A [cI aC m_gets 90 gf, cI aC m_yes 9 yc, cI aC m_ends 9 ef, cI aC m_carried 9 cf, oX12 g0 m_refused m_kind m_figure m_weight m_got m_setting (nI n) msy mdn m_tape m_letter m_letterAt m_told tp mat stm m_kept him ki crs m_price m_offer m_gets m_yes m_buys m_ends m_carried m_row rm m_keptRow m_likeGets m_likePrice m_ahead, cI aC m_kind 9 kf, cI aC m_figure 9 ff, cI aC m_weight 9 wf, cI aC m_setting 5 stf, cI aC m_price 81 pc9, cI aC m_offer 81 u_4, cI aC m_buys 9 u_5] → va_S A s.heap H locs → lv_has ls 3 [(0, Value.ref g0), (1, Value.int (nI i)), (2, Value.int (nI j))] → W p l e (headSpec (wW yX12_solves cX12_solves 3 (none : Option FieldType)) ({ frames := 3, cells := 0, slots := 0, locals := 72 } : Room)).room s m ([Value.ref g0, Value.int (nI i)] : List Value).toArray below meth c H locs 0 0 (MQ below (va_Qv (fun (u : (Nat → Int32) × (Nat → Int32) × (Nat → Int32) × (Nat → Int32) × (Nat → Int32) × (Nat → Int32) × (Nat → Int32)) => match u with | (pf2, of2, gf2, yf2, bf2, ef2, cf2) => MMT n W0 (stf 1) pl pf2 of2 gf2 yf2 bf2 ef2 cf2 i ∧ (∀ k, k < 9 * i ∨ 9 * i + 9 ≤ k → pf2 k = pf k ∧ of2 k = of k ∧ gf2 k = gf k) ∧ ∀ q, q ≠ i → yf2 q = yf q ∧ bf2 q = bf q ∧ ef2 q = ef q ∧ cf2 q = cf q) (fun (u : (Nat → Int32) × (Nat → Int32) × (Nat → Int32) × (Nat → Int32) × (Nat → Int32) × (Nat → Int32) × (Nat → Int32)) (t : State) => match u with | (pf2, of2, gf2, yf2, bf2, ef2, cf2) => va_P (dC, dI) classes [oX12 g0 m_refused m_kind m_figure m_weight m_got m_setting (nI n) msy mdn m_tape m_letter m_letterAt m_told tp mat stm m_kept him ki crs m_price m_offer m_gets m_yes m_buys m_ends m_carried m_row rm m_keptRow m_likeGets m_likePrice m_ahead, cI aC m_kind 9 kf, cI aC m_figure 9 ff, cI aC m_weight 9 wf, cI aC m_setting 5 stf, cI aC m_price 81 pf2, cI aC m_offer 81 of2, cI aC m_gets 90 gf2, cI aC m_yes 9 yf2, cI aC m_buys 9 bf2, cI aC m_ends 9 ef2, cI aC m_carried 9 cf2] t.heap ∧ va_K (dC, dI) classes (TY aC) t ∧ va_D A [oX12 g0 m_refused m_kind m_figure m_weight m_got m_setting (nI n) msy mdn m_tape m_letter m_letterAt m_told tp mat stm m_kept him ki crs m_price m_offer m_gets m_yes m_buys m_ends m_carried m_row rm m_keptRow m_likeGets m_likePrice m_ahead, cI aC m_kind 9 kf, cI aC m_figure 9 ff, cI aC m_weight 9 wf, cI aC m_setting 5 stf, cI aC m_price 81 pf2, cI aC m_offer 81 of2, cI aC m_gets 90 gf2, cI aC m_yes 9 yf2, cI aC m_buys 9 bf2, cI aC m_ends 9 ef2, cI aC m_carried 9 cf2]) A) ([Value.ref g0, Value.int (nI i)] : List Value).toArray s 0 0 A) (F0 m 65 ls []) := by
          intro fu
          induction fu with
          | zero => intro j yc hfu; exact absurd hfu (Nat.not_lt_zero _)
          | succ fu ih_65 =>
            intro j yc hfu hj hy1 hy2 H locs ls hP hD hS hl
            refine lv_iload_n hx hb dX12_solves_65 rfl (lv_at hl 2 rfl) ?_
            refine lv_aload_n hx hb dX12_solves_66 rfl (lv_at hl 0 rfl) ?_
            refine va_get (D := (dC, dI)) (ci := 12) (v := Value.int (nI n)) (C := RX12) (T := TX12) (N := 33) hx hb hts inX12 hown hK hP 4 rfl rfl 6 (by decide) (hts _ (gw kw_723 rfl)) (fun _ h9 => h9) rfl dX12_solves_67 ?_
            refine lv_icmp_ge (tgt := 120) hx hb dX12_solves_70 (by decide) (fun c_10 => ?_) (fun c_10 => ?_)
            · have hjn : j = n := by
                rcases Nat.lt_or_ge j n with q | q
                · exact absurd c_10 (nI_ge q (by omega))
                · omega
              have hY := vt_fin hpl hin (y := yc i) (fun b hb => by rw [hy1 b hb, hjn])
              have hYg := zY_ge hpl hin
              have hcnd := cnd_iff (law := stf 1) (Y := zY pl i) hin hn8 (HW1_of hev) hYg.1 (hYg.2 (by omega))
              refine lv_aload_n hx hb dX12_solves_120 rfl (lv_at hl 0 rfl) ?_
              refine va_get (D := (dC, dI)) (ci := 12) (v := Value.ref m_carried) (C := RX12) (T := TX12) (N := 33) hx hb hts inX12 hown hK hP 4 rfl rfl 26 (by decide) (hts _ (gw kw_743 rfl)) (fun _ h9 => h9) rfl dX12_solves_121 ?_
              refine lv_iload_n hx hb dX12_solves_124 rfl (lv_at hl 1 rfl) ?_
              refine lv_aload_n hx hb dX12_solves_125 rfl (lv_at hl 0 rfl) ?_
              refine va_get (D := (dC, dI)) (ci := 12) (v := Value.ref m_setting) (C := RX12) (T := TX12) (N := 33) hx hb hts inX12 hown hK hP 4 rfl rfl 5 (by decide) (hts _ (gw kw_722 rfl)) (fun _ h9 => h9) rfl dX12_solves_126 ?_
              refine lv_iconst (v := 1) hx hb dX12_solves_129 (by decide) ?_
              have h_11 : vp_in 1 5 := by unfold vp_in; decide
              refine va_iald hx hb hK hP 8 0 rfl rfl h_11 dX12_solves_130 ?_
              refine lv_topi (fun x_12 e_12 => ?_)
              have h9 : x_12 = (stf 1) := by rw [e_12]; rfl
              subst h9
              refine lv_aload_n hx hb dX12_solves_131 rfl (lv_at hl 0 rfl) ?_
              refine lv_aload_n hx hb dX12_solves_132 rfl (lv_at hl 0 rfl) ?_
              refine va_get (D := (dC, dI)) (ci := 12) (v := Value.ref m_yes) (C := RX12) (T := TX12) (N := 33) hx hb hts inX12 hown hK hP 4 rfl rfl 23 (by decide) (hts _ (gw kw_740 rfl)) (fun _ h9 => h9) rfl dX12_solves_133 ?_
              refine lv_iload_n hx hb dX12_solves_136 rfl (lv_at hl 1 rfl) ?_
              have h_13 : vp_in (nI i) 9 := by first | exact vp_in_nI (by omega) (by omega) | (unfold vp_in; decide) | (subst_vars; first | (unfold vp_in; decide) | exact vp_in_nI (by omega) (by omega))
              refine va_iald hx hb hK hP 1 0 rfl rfl h_13 dX12_solves_137 ?_
              refine lv_topi (fun x_14 e_14 => ?_)
              have h9 : x_14 = (zY pl i) := by rw [e_14, nI_clamp (by omega)]; exact hY
              subst h9
              have hpd9 := pdf_N (cx := [oX12 g0 m_refused m_kind m_figure m_weight m_got m_setting (nI n) msy mdn m_tape m_letter m_letterAt m_told tp mat stm m_kept him ki crs m_price m_offer m_gets m_yes m_buys m_ends m_carried m_row rm m_keptRow m_likeGets m_likePrice m_ahead, cI aC m_weight 9 wf]) hP hD hS hA [4, 7] (by decide) rfl
              have hPc := hpd9.1
              have hDc := hpd9.2.1
              have hFc := hpd9.2.2
              clear hpd9
              refine va_calli (va_runV (As := [Value.int (zY pl i)]) (rest := [Value.int (stf 1), Value.int (nI i), Value.ref m_carried]) ⟨hx, hb, hml, hown, hts⟩ (c_X12_weightOf l dC dI aC H.size g0 m_refused m_kind m_figure m_weight m_got m_setting m_tape m_letter m_letterAt m_told m_kept m_price m_offer m_gets m_yes m_buys m_ends m_carried m_row m_keptRow m_likeGets m_likePrice m_ahead msy mdn tp mat stm him ki crs rm n wf W0 (zY pl i) (HW_of hev)) ⟨(callB_of 1 hts (gG kw_930) rfl rfl rfl (hts _ (gw kw_13 rfl)) (hts _ (gw kw_927 rfl)) hd_X12_weightOf ⟨Nat.le_of_ble_eq_true rfl, Nat.le_of_ble_eq_true rfl⟩), (hts _ (gw kw_929 rfl)), (hts _ (gw ks_52 rfl))⟩ ⟨fb_std, va_recv (q := (RX12, TX12, 33)) hK hPc (ci := 12) (q0 := 0) rfl rfl, pre_std hPc hK hDc hN⟩ rfl rfl hl.1 rfl (lv_room (Nat.le_of_ble_eq_true rfl)) dX12_solves_138 ⟨Nat.le_of_ble_eq_true rfl, Nat.le_of_ble_eq_true rfl⟩) hS (fun q _ h => hFc q h) hFc (fun x_15 u9 t9 H1 locs ht hvm hw_15 hB hz1 hk1 hS => ?_)
              obtain ⟨hP1, hK1, hD1⟩ := hB
              rw [ht] at hP1
              clear hK1
              try dsimp only at hw_15
              have hpd9 : PDx (dC, dI) classes A H1 [cI aC m_gets 90 gf, cI aC m_yes 9 yc, cI aC m_ends 9 ef, cI aC m_carried 9 cf, cI aC m_kind 9 kf, cI aC m_figure 9 ff, cI aC m_setting 5 stf, cI aC m_price 81 pc9, cI aC m_offer 81 u_4, cI aC m_buys 9 u_5, oX12 g0 m_refused m_kind m_figure m_weight m_got m_setting (nI n) msy mdn m_tape m_letter m_letterAt m_told tp mat stm m_kept him ki crs m_price m_offer m_gets m_yes m_buys m_ends m_carried m_row rm m_keptRow m_likeGets m_likePrice m_ahead, cI aC m_weight 9 wf] := jn_N (wr := [cI aC m_gets 90 gf, cI aC m_yes 9 yc, cI aC m_ends 9 ef, cI aC m_carried 9 cf, cI aC m_kind 9 kf, cI aC m_figure 9 ff, cI aC m_setting 5 stf, cI aC m_price 81 pc9, cI aC m_offer 81 u_4, cI aC m_buys 9 u_5]) hFc hk1 hP1 hD1 hP hD [4, 7] [0, 1, 2, 3, 5, 6, 8, 9, 10, 11] rfl rfl (by decide) (by decide)
              have hP := hpd9.1
              have hD := hpd9.2
              clear hpd9
              generalize H1 = H at hP hS ⊢
              clear hPc hDc hFc hz1 hk1 hP1 hD1 ht hvm
              have h9 : x_15 = nI (yw W0 (zY pl i) 0 n) := hw_15
              subst h9
              have hy9 := yw_le (W := W0) (y := zY pl i) (a := 0) (k := n) (fun j q => ((HW_of hev).2 j q).2) (by omega) hn8
              refine lv_aload_n hx hb dX12_solves_141 rfl (lv_at hl 0 rfl) ?_
              refine lv_aload_n hx hb dX12_solves_142 rfl (lv_at hl 0 rfl) ?_
              refine lv_iload_n hx hb dX12_solves_143 rfl (lv_at hl 1 rfl) ?_
              have hpd9 := pdf_N (cx := [oX12 g0 m_refused m_kind m_figure m_weight m_got m_setting (nI n) msy mdn m_tape m_letter m_letterAt m_told tp mat stm m_kept him ki crs m_price m_offer m_gets m_yes m_buys m_ends m_carried m_row rm m_keptRow m_likeGets m_likePrice m_ahead]) hP hD hS hA [10] (by decide) rfl
              have hPc := hpd9.1
              have hDc := hpd9.2.1
              have hFc := hpd9.2.2
              clear hpd9
              refine va_calli (va_runV (As := [Value.int (nI i)]) (rest := [Value.ref g0, Value.int (nI (yw W0 (zY pl i) 0 n)), Value.int (stf 1), Value.int (nI i), Value.ref m_carried]) ⟨hx, hb, hml, hown, hts⟩ (c_X12_leftFrom l dC dI aC H.size g0 m_refused m_kind m_figure m_weight m_got m_setting m_tape m_letter m_letterAt m_told m_kept m_price m_offer m_gets m_yes m_buys m_ends m_carried m_row m_keptRow m_likeGets m_likePrice m_ahead msy mdn tp mat stm him ki crs rm n i (by omega)) ⟨(callB_of 1 hts (gG kw_922) rfl rfl rfl (hts _ (gw kw_13 rfl)) (hts _ (gw kw_919 rfl)) hd_X12_leftFrom ⟨Nat.le_of_ble_eq_true rfl, Nat.le_of_ble_eq_true rfl⟩), (hts _ (gw kw_921 rfl)), (hts _ (gw ks_50 rfl))⟩ ⟨fb_std, va_recv (q := (RX12, TX12, 33)) hK hPc (ci := 12) (q0 := 0) rfl rfl, pre_std hPc hK hDc hN⟩ rfl rfl hl.1 rfl (lv_room (Nat.le_of_ble_eq_true rfl)) dX12_solves_144 ⟨Nat.le_of_ble_eq_true rfl, Nat.le_of_ble_eq_true rfl⟩) hS (fun q _ h => hFc q h) hFc (fun x_16 u9 t9 H1 locs ht hvm hw_16 hB hz1 hk1 hS => ?_)
              obtain ⟨hP1, hK1, hD1⟩ := hB
              rw [ht] at hP1
              clear hK1
              try dsimp only at hw_16
              have hpd9 : PDx (dC, dI) classes A H1 [cI aC m_gets 90 gf, cI aC m_yes 9 yc, cI aC m_ends 9 ef, cI aC m_carried 9 cf, cI aC m_kind 9 kf, cI aC m_figure 9 ff, cI aC m_setting 5 stf, cI aC m_price 81 pc9, cI aC m_offer 81 u_4, cI aC m_buys 9 u_5, cI aC m_weight 9 wf, oX12 g0 m_refused m_kind m_figure m_weight m_got m_setting (nI n) msy mdn m_tape m_letter m_letterAt m_told tp mat stm m_kept him ki crs m_price m_offer m_gets m_yes m_buys m_ends m_carried m_row rm m_keptRow m_likeGets m_likePrice m_ahead] := jn_N (wr := [cI aC m_gets 90 gf, cI aC m_yes 9 yc, cI aC m_ends 9 ef, cI aC m_carried 9 cf, cI aC m_kind 9 kf, cI aC m_figure 9 ff, cI aC m_setting 5 stf, cI aC m_price 81 pc9, cI aC m_offer 81 u_4, cI aC m_buys 9 u_5, cI aC m_weight 9 wf]) hFc hk1 hP1 hD1 hP hD [10] [0, 1, 2, 3, 4, 5, 6, 7, 8, 9, 11] rfl rfl (by decide) (by decide)
              have hP := hpd9.1
              have hD := hpd9.2
              clear hpd9
              generalize H1 = H at hP hS ⊢
              clear hPc hDc hFc hz1 hk1 hP1 hD1 ht hvm
              have hpd9 := pdf_N (cx := [oX12 g0 m_refused m_kind m_figure m_weight m_got m_setting (nI n) msy mdn m_tape m_letter m_letterAt m_told tp mat stm m_kept him ki crs m_price m_offer m_gets m_yes m_buys m_ends m_carried m_row rm m_keptRow m_likeGets m_likePrice m_ahead, cI aC m_weight 9 wf]) hP hD hS hA [11, 10] (by decide) rfl
              have hPc := hpd9.1
              have hDc := hpd9.2.1
              have hFc := hpd9.2.2
              clear hpd9
              refine va_calli (va_runV (As := [Value.int x_16]) (rest := [Value.int (nI (yw W0 (zY pl i) 0 n)), Value.int (stf 1), Value.int (nI i), Value.ref m_carried]) ⟨hx, hb, hml, hown, hts⟩ (c_X12_weightOf l dC dI aC H.size g0 m_refused m_kind m_figure m_weight m_got m_setting m_tape m_letter m_letterAt m_told m_kept m_price m_offer m_gets m_yes m_buys m_ends m_carried m_row m_keptRow m_likeGets m_likePrice m_ahead msy mdn tp mat stm him ki crs rm n wf W0 x_16 (HW_of hev)) ⟨(callB_of 1 hts (gG kw_930) rfl rfl rfl (hts _ (gw kw_13 rfl)) (hts _ (gw kw_927 rfl)) hd_X12_weightOf ⟨Nat.le_of_ble_eq_true rfl, Nat.le_of_ble_eq_true rfl⟩), (hts _ (gw kw_929 rfl)), (hts _ (gw ks_52 rfl))⟩ ⟨fb_std, va_recv (q := (RX12, TX12, 33)) hK hPc (ci := 12) (q0 := 0) rfl rfl, pre_std hPc hK hDc hN⟩ rfl rfl hl.1 rfl (lv_room (Nat.le_of_ble_eq_true rfl)) dX12_solves_147 ⟨Nat.le_of_ble_eq_true rfl, Nat.le_of_ble_eq_true rfl⟩) hS (fun q _ h => hFc q h) hFc (fun x_17 u9 t9 H1 locs ht hvm hw_17 hB hz1 hk1 hS => ?_)
              obtain ⟨hP1, hK1, hD1⟩ := hB
              rw [ht] at hP1
              clear hK1
              try dsimp only at hw_17
              have hpd9 : PDx (dC, dI) classes A H1 [cI aC m_gets 90 gf, cI aC m_yes 9 yc, cI aC m_ends 9 ef, cI aC m_carried 9 cf, cI aC m_kind 9 kf, cI aC m_figure 9 ff, cI aC m_setting 5 stf, cI aC m_price 81 pc9, cI aC m_offer 81 u_4, cI aC m_buys 9 u_5, oX12 g0 m_refused m_kind m_figure m_weight m_got m_setting (nI n) msy mdn m_tape m_letter m_letterAt m_told tp mat stm m_kept him ki crs m_price m_offer m_gets m_yes m_buys m_ends m_carried m_row rm m_keptRow m_likeGets m_likePrice m_ahead, cI aC m_weight 9 wf] := jn_N (wr := [cI aC m_gets 90 gf, cI aC m_yes 9 yc, cI aC m_ends 9 ef, cI aC m_carried 9 cf, cI aC m_kind 9 kf, cI aC m_figure 9 ff, cI aC m_setting 5 stf, cI aC m_price 81 pc9, cI aC m_offer 81 u_4, cI aC m_buys 9 u_5]) hFc hk1 hP1 hD1 hP hD [11, 10] [0, 1, 2, 3, 4, 5, 6, 7, 8, 9] rfl rfl (by decide) (by decide)
              have hP := hpd9.1
              have hD := hpd9.2
              clear hpd9
              generalize H1 = H at hP hS ⊢
              clear hPc hDc hFc hz1 hk1 hP1 hD1 ht hvm
              have h9 : x_17 = nI (sumr W0 i (n - i)) := by rw [hw_17, yw_left (by omega) hn8 hw_16]
              subst h9
              have hs9 := w_le (W := W0) (a := i) (k := n - i) (fun j q => ((HW_of hev).2 j q).2) (by omega) hn8
              have hpd9 := pdf_N (cx := []) hP hD hS hA [] (by decide) rfl
              have hPc := hpd9.1
              have hDc := hpd9.2.1
              have hFc := hpd9.2.2
              clear hpd9
              refine va_calli (va_runS (As := [Value.int (stf 1), Value.int (nI (yw W0 (zY pl i) 0 n)), Value.int (nI (sumr W0 i (n - i)))]) (rest := [Value.int (nI i), Value.ref m_carried]) ⟨hx, hb, hml, hown, hts⟩ (c_X12_isCarried l dC dI aC H.size (stf 1) (yw W0 (zY pl i) 0 n) (sumr W0 i (n - i)) (by omega) (by omega)) ⟨(callB_of 3 hts (gG kw_933) rfl rfl rfl (hts _ (gw kw_13 rfl)) (hts _ (gw kw_931 rfl)) hd_X12_isCarried ⟨Nat.le_of_ble_eq_true rfl, Nat.le_of_ble_eq_true rfl⟩), (hts _ (gw kw_932 rfl))⟩ ⟨fb_std, pre_std hPc hK hDc hN⟩ rfl rfl hl.1 rfl (lv_room (Nat.le_of_ble_eq_true rfl)) dX12_solves_150 ⟨Nat.le_of_ble_eq_true rfl, Nat.le_of_ble_eq_true rfl⟩) hS (fun q _ h => hFc q h) hFc (fun x_18 u9 t9 H1 locs ht hvm hw_18 hB hz1 hk1 hS => ?_)
              obtain ⟨hP1, hK1, hD1⟩ := hB
              rw [ht] at hP1
              clear hK1
              try dsimp only at hw_18
              have hpd9 : PDx (dC, dI) classes A H1 [cI aC m_gets 90 gf, cI aC m_yes 9 yc, cI aC m_ends 9 ef, cI aC m_carried 9 cf, cI aC m_kind 9 kf, cI aC m_figure 9 ff, cI aC m_setting 5 stf, cI aC m_price 81 pc9, cI aC m_offer 81 u_4, cI aC m_buys 9 u_5, oX12 g0 m_refused m_kind m_figure m_weight m_got m_setting (nI n) msy mdn m_tape m_letter m_letterAt m_told tp mat stm m_kept him ki crs m_price m_offer m_gets m_yes m_buys m_ends m_carried m_row rm m_keptRow m_likeGets m_likePrice m_ahead, cI aC m_weight 9 wf] := jn_N (wr := [cI aC m_gets 90 gf, cI aC m_yes 9 yc, cI aC m_ends 9 ef, cI aC m_carried 9 cf, cI aC m_kind 9 kf, cI aC m_figure 9 ff, cI aC m_setting 5 stf, cI aC m_price 81 pc9, cI aC m_offer 81 u_4, cI aC m_buys 9 u_5, oX12 g0 m_refused m_kind m_figure m_weight m_got m_setting (nI n) msy mdn m_tape m_letter m_letterAt m_told tp mat stm m_kept him ki crs m_price m_offer m_gets m_yes m_buys m_ends m_carried m_row rm m_keptRow m_likeGets m_likePrice m_ahead, cI aC m_weight 9 wf]) hFc hk1 hP1 hD1 hP hD [] [0, 1, 2, 3, 4, 5, 6, 7, 8, 9, 10, 11] rfl rfl (by decide) (by decide)
              have hP := hpd9.1
              have hD := hpd9.2
              clear hpd9
              generalize H1 = H at hP hS ⊢
              clear hPc hDc hFc hz1 hk1 hP1 hD1 ht hvm
              have hz_150 := hw_18
              refine lv_if_eq (tgt := 160) hx hb dX12_solves_153 (by decide) (fun c_19 => ?_) (fun c_19 => ?_)
              · refine lv_iconst (v := 0) hx hb dX12_solves_160 (by decide) ?_
                have hcn : ¬ CNDs n W0 (stf 1) i (zY pl i) := fun q => absurd (hz_150.symm.trans c_19) (by rw [if_pos (hcnd.mp q)]; decide)
                have h_20 : vp_in (nI i) 9 := by first | exact vp_in_nI (by omega) (by omega) | (unfold vp_in; decide) | (subst_vars; first | (unfold vp_in; decide) | exact vp_in_nI (by omega) (by omega))
                refine va_iast hx hb hK hP hD hS 3 0 rfl rfl h_20 dX12_solves_161 (fun H locs hP hD hS => ?_)
                obtain ⟨f_21, e_f_21⟩ : ∃ y : Nat → Int32, y = upd cf (nI i : Int32).toNatClampNeg 0 := ⟨_, rfl⟩
                have hpd9 : PDx (dC, dI) classes A H [cI aC m_gets 90 gf, cI aC m_yes 9 yc, cI aC m_ends 9 ef, cI aC m_carried 9 f_21, cI aC m_kind 9 kf, cI aC m_figure 9 ff, cI aC m_setting 5 stf, cI aC m_price 81 pc9, cI aC m_offer 81 u_4, cI aC m_buys 9 u_5, oX12 g0 m_refused m_kind m_figure m_weight m_got m_setting (nI n) msy mdn m_tape m_letter m_letterAt m_told tp mat stm m_kept him ki crs m_price m_offer m_gets m_yes m_buys m_ends m_carried m_row rm m_keptRow m_likeGets m_likePrice m_ahead, cI aC m_weight 9 wf] := by rw [e_f_21]; exact ⟨hP, hD⟩
                have hP := hpd9.1
                have hD := hpd9.2
                clear hpd9
                have hci : f_21 i = 0 := by rw [e_f_21, nI_clamp (by omega), pk_us]
                have hco : ∀ q, q ≠ i → f_21 q = cf q := fun q h => by rw [e_f_21, nI_clamp (by omega), pk_un h]
                obtain ⟨hE1, hS1⟩ := hst.2.2.2.2 hcn
                have hi1 : i + 1 < n := Nat.lt_of_not_le (fun q => hcn (Or.inl q))
                have hm2 := hm1 hi1
                refine lv_aload_n hx hb dX12_solves_162 rfl (lv_at hl 0 rfl) ?_
                refine va_get (D := (dC, dI)) (ci := 12) (v := Value.ref m_ends) (C := RX12) (T := TX12) (N := 33) hx hb hts inX12 hown hK hP 10 rfl rfl 25 (by decide) (hts _ (gw kw_742 rfl)) (fun _ h9 => h9) rfl dX12_solves_163 ?_
                refine lv_iload_n hx hb dX12_solves_166 rfl (lv_at hl 1 rfl) ?_
                refine lv_aload_n hx hb dX12_solves_167 rfl (lv_at hl 0 rfl) ?_
                refine va_get (D := (dC, dI)) (ci := 12) (v := Value.ref m_carried) (C := RX12) (T := TX12) (N := 33) hx hb hts inX12 hown hK hP 10 rfl rfl 26 (by decide) (hts _ (gw kw_743 rfl)) (fun _ h9 => h9) rfl dX12_solves_168 ?_
                refine lv_iload_n hx hb dX12_solves_171 rfl (lv_at hl 1 rfl) ?_
                have h_22 : vp_in (nI i) 9 := by first | exact vp_in_nI (by omega) (by omega) | (unfold vp_in; decide) | (subst_vars; first | (unfold vp_in; decide) | exact vp_in_nI (by omega) (by omega))
                refine va_iald hx hb hK hP 3 0 rfl rfl h_22 dX12_solves_172 ?_
                refine lv_topi (fun x_23 e_23 => ?_)
                have h9 : x_23 = 0 := by rw [e_23, nI_clamp (by omega)]; exact hci
                subst h9
                refine lv_iconst (v := 1) hx hb dX12_solves_173 (by decide) ?_
                refine lv_icmp_ne (tgt := 181) hx hb dX12_solves_174 (by decide) (fun c_24 => ?_) (fun c_24 => ?_)
                · refine lv_aload_n hx hb dX12_solves_181 rfl (lv_at hl 0 rfl) ?_
                  refine va_get (D := (dC, dI)) (ci := 12) (v := Value.ref m_ends) (C := RX12) (T := TX12) (N := 33) hx hb hts inX12 hown hK hP 10 rfl rfl 25 (by decide) (hts _ (gw kw_742 rfl)) (fun _ h9 => h9) rfl dX12_solves_182 ?_
                  refine lv_iload_n hx hb dX12_solves_185 rfl (lv_at hl 1 rfl) ?_
                  refine lv_iconst (v := 1) hx hb dX12_solves_186 (by decide) ?_
                  refine lv_iadd hx hb dX12_solves_187 ?_
                  refine lv_topi (fun x_25 e_25 => ?_)
                  have h9 : x_25 = nI (i + 1) := by rw [e_25, nI_1]
                  subst h9
                  have h_26 : vp_in (nI (i + 1)) 9 := by first | exact vp_in_nI (by omega) (by omega) | (unfold vp_in; decide) | (subst_vars; first | (unfold vp_in; decide) | exact vp_in_nI (by omega) (by omega))
                  refine va_iald hx hb hK hP 2 0 rfl rfl h_26 dX12_solves_188 ?_
                  refine lv_topi (fun x_27 e_27 => ?_)
                  have h_28 : vp_in (nI i) 9 := by first | exact vp_in_nI (by omega) (by omega) | (unfold vp_in; decide) | (subst_vars; first | (unfold vp_in; decide) | exact vp_in_nI (by omega) (by omega))
                  refine va_iast hx hb hK hP hD hS 2 0 rfl rfl h_28 dX12_solves_189 (fun H locs hP hD hS => ?_)
                  obtain ⟨f_29, e_f_29⟩ : ∃ y : Nat → Int32, y = upd ef (nI i : Int32).toNatClampNeg x_27 := ⟨_, rfl⟩
                  have hpd9 : PDx (dC, dI) classes A H [cI aC m_gets 90 gf, cI aC m_yes 9 yc, cI aC m_ends 9 f_29, cI aC m_carried 9 f_21, cI aC m_kind 9 kf, cI aC m_figure 9 ff, cI aC m_setting 5 stf, cI aC m_price 81 pc9, cI aC m_offer 81 u_4, cI aC m_buys 9 u_5, oX12 g0 m_refused m_kind m_figure m_weight m_got m_setting (nI n) msy mdn m_tape m_letter m_letterAt m_told tp mat stm m_kept him ki crs m_price m_offer m_gets m_yes m_buys m_ends m_carried m_row rm m_keptRow m_likeGets m_likePrice m_ahead, cI aC m_weight 9 wf] := by rw [e_f_29]; exact ⟨hP, hD⟩
                  have hP := hpd9.1
                  have hD := hpd9.2
                  clear hpd9
                  have hei : f_29 i = zE pl i := by rw [e_f_29, nI_clamp (by omega), pk_us, e_27, nI_clamp (by omega), hE1]; exact hm2.2.2.2.2.2.1
                  have heo : ∀ q, q ≠ i → f_29 q = ef q := fun q h => by rw [e_f_29, nI_clamp (by omega), pk_un h]
                  refine lv_iload_n hx hb dX12_solves_190 rfl (lv_at hl 1 rfl) ?_
                  refine lv_istore_n (lv' := [(2, Value.int (nI i)), (0, Value.ref g0), (1, Value.int (nI i))]) hx hb dX12_solves_191 rfl hl (by decide) rfl (fun ls hl => ?_)
                  have lp_192 : ∀ (fu : Nat) (j : Nat) (gc : Nat → Int32) (hfu : n - j < fu) (hj : i ≤ j ∧ j ≤ n) (hg1 : ∀ q, i ≤ q → q < j → gc (9 * i + q) = iI (zS pl i q)) (hgfr : ∀ k, k < 9 * i ∨ 9 * i + 9 ≤ k → gc k = gf k) (H : Heap) (locs : List Loc) (ls : Array Slot), va_P (dC, dI) classes [cI aC m_gets 90 gc, cI aC m_yes 9 yc, cI aC m_ends 9 f_29, cI aC m_carried 9 f_21, cI aC m_kind 9 kf, cI aC m_figure 9 ff, cI aC m_setting 5 stf, cI aC m_price 81 pc9, cI aC m_offer 81 u_4, cI aC m_buys 9 u_5, oX12 g0 m_refused m_kind m_figure m_weight m_got m_setting (nI n) msy mdn m_tape m_letter m_letterAt m_told tp mat stm m_kept him ki crs m_price m_offer m_gets m_yes m_buys m_ends m_carried m_row rm m_keptRow m_likeGets m_likePrice m_ahead, cI aC m_weight 9 wf] H → va_D A [cI aC m_gets 90 gc, cI aC m_yes 9 yc, cI aC m_ends 9 f_29, cI aC m_carried 9 f_21, cI aC m_kind 9 kf, cI aC m_figure 9 ff, cI aC m_setting 5 stf, cI aC m_price 81 pc9, cI aC m_offer 81 u_4, cI aC m_buys 9 u_5, oX12 g0 m_refused m_kind m_figure m_weight m_got m_setting (nI n) msy mdn m_tape m_letter m_letterAt m_told tp mat stm m_kept him ki crs m_price m_offer m_gets m_yes m_buys m_ends m_carried m_row rm m_keptRow m_likeGets m_likePrice m_ahead, cI aC m_weight 9 wf] → va_S A s.heap H locs → lv_has ls 3 [(0, Value.ref g0), (1, Value.int (nI i)), (2, Value.int (nI j))] → W p l e (headSpec (wW yX12_solves cX12_solves 3 (none : Option FieldType)) ({ frames := 3, cells := 0, slots := 0, locals := 72 } : Room)).room s m ([Value.ref g0, Value.int (nI i)] : List Value).toArray below meth c H locs 0 0 (MQ below (va_Qv (fun (u : (Nat → Int32) × (Nat → Int32) × (Nat → Int32) × (Nat → Int32) × (Nat → Int32) × (Nat → Int32) × (Nat → Int32)) => match u with | (pf2, of2, gf2, yf2, bf2, ef2, cf2) => MMT n W0 (stf 1) pl pf2 of2 gf2 yf2 bf2 ef2 cf2 i ∧ (∀ k, k < 9 * i ∨ 9 * i + 9 ≤ k → pf2 k = pf k ∧ of2 k = of k ∧ gf2 k = gf k) ∧ ∀ q, q ≠ i → yf2 q = yf q ∧ bf2 q = bf q ∧ ef2 q = ef q ∧ cf2 q = cf q) (fun (u : (Nat → Int32) × (Nat → Int32) × (Nat → Int32) × (Nat → Int32) × (Nat → Int32) × (Nat → Int32) × (Nat → Int32)) (t : State) => match u with | (pf2, of2, gf2, yf2, bf2, ef2, cf2) => va_P (dC, dI) classes [oX12 g0 m_refused m_kind m_figure m_weight m_got m_setting (nI n) msy mdn m_tape m_letter m_letterAt m_told tp mat stm m_kept him ki crs m_price m_offer m_gets m_yes m_buys m_ends m_carried m_row rm m_keptRow m_likeGets m_likePrice m_ahead, cI aC m_kind 9 kf, cI aC m_figure 9 ff, cI aC m_weight 9 wf, cI aC m_setting 5 stf, cI aC m_price 81 pf2, cI aC m_offer 81 of2, cI aC m_gets 90 gf2, cI aC m_yes 9 yf2, cI aC m_buys 9 bf2, cI aC m_ends 9 ef2, cI aC m_carried 9 cf2] t.heap ∧ va_K (dC, dI) classes (TY aC) t ∧ va_D A [oX12 g0 m_refused m_kind m_figure m_weight m_got m_setting (nI n) msy mdn m_tape m_letter m_letterAt m_told tp mat stm m_kept him ki crs m_price m_offer m_gets m_yes m_buys m_ends m_carried m_row rm m_keptRow m_likeGets m_likePrice m_ahead, cI aC m_kind 9 kf, cI aC m_figure 9 ff, cI aC m_weight 9 wf, cI aC m_setting 5 stf, cI aC m_price 81 pf2, cI aC m_offer 81 of2, cI aC m_gets 90 gf2, cI aC m_yes 9 yf2, cI aC m_buys 9 bf2, cI aC m_ends 9 ef2, cI aC m_carried 9 cf2]) A) ([Value.ref g0, Value.int (nI i)] : List Value).toArray s 0 0 A) (F0 m 192 ls []) := by
                    intro fu
                    induction fu with
                    | zero => intro j gc hfu; exact absurd hfu (Nat.not_lt_zero _)
                    | succ fu ih_192 =>
                      intro j gc hfu hj hg1 hgfr H locs ls hP hD hS hl
                      refine lv_iload_n hx hb dX12_solves_192 rfl (lv_at hl 2 rfl) ?_
                      refine lv_aload_n hx hb dX12_solves_193 rfl (lv_at hl 0 rfl) ?_
                      refine va_get (D := (dC, dI)) (ci := 12) (v := Value.int (nI n)) (C := RX12) (T := TX12) (N := 33) hx hb hts inX12 hown hK hP 10 rfl rfl 6 (by decide) (hts _ (gw kw_723 rfl)) (fun _ h9 => h9) rfl dX12_solves_194 ?_
                      refine lv_icmp_ge (tgt := 263) hx hb dX12_solves_197 (by decide) (fun c_30 => ?_) (fun c_30 => ?_)
                      · have hjn : j = n := by
                          rcases Nat.lt_or_ge j n with q | q
                          · exact absurd c_30 (nI_ge q (by omega))
                          · omega
                        have hpd9 := pd_N (cx := [oX12 g0 m_refused m_kind m_figure m_weight m_got m_setting (nI n) msy mdn m_tape m_letter m_letterAt m_told tp mat stm m_kept him ki crs m_price m_offer m_gets m_yes m_buys m_ends m_carried m_row rm m_keptRow m_likeGets m_likePrice m_ahead, cI aC m_kind 9 kf, cI aC m_figure 9 ff, cI aC m_weight 9 wf, cI aC m_setting 5 stf, cI aC m_price 81 pc9, cI aC m_offer 81 u_4, cI aC m_gets 90 gc, cI aC m_yes 9 yc, cI aC m_buys 9 u_5, cI aC m_ends 9 f_29, cI aC m_carried 9 f_21]) hP hD [10, 4, 5, 11, 6, 7, 8, 0, 1, 9, 2, 3] (by decide) rfl
                        have hP9 := hpd9.1
                        have hD9 := hpd9.2
                        refine W.widen (k := 0) (n := 0) (by omega) (by omega) ?_
                        exact W.vret hx hb hr (fun t ht hW => ⟨⟨(pc9, u_4, gc, yc, u_5, f_29, f_21), rfl, ⟨⟨fun q h1 h2 => hPn q h1 h2, hO1, fun q h1 h2 => hg1 q h1 (by omega), hY, hB1, hei, ⟨fun q => absurd q hcn, fun _ => hci⟩⟩, fun k hk => ⟨hpfr k hk, hO2 k hk, hgfr k hk⟩, fun q h => ⟨hy2 q h, hB2 q h, heo q h, hco q h⟩⟩, by rw [ht]; exact hP9, va_K.moved hW.alike hK, hD9⟩, hS.F ht⟩) hS.2.2 dX12_solves_263
                      · have hlt : j < n := by
                          rcases Nat.lt_or_ge j n with q | q
                          · exact q
                          · exact absurd (nI_le q (by omega)) c_30
                        refine lv_aload_n hx hb dX12_solves_200 rfl (lv_at hl 0 rfl) ?_
                        refine va_get (D := (dC, dI)) (ci := 12) (v := Value.ref m_gets) (C := RX12) (T := TX12) (N := 33) hx hb hts inX12 hown hK hP 10 rfl rfl 22 (by decide) (hts _ (gw kw_739 rfl)) (fun _ h9 => h9) rfl dX12_solves_201 ?_
                        refine lv_bipush (v := 9) hx hb dX12_solves_204 (by decide) ?_
                        refine lv_iload_n hx hb dX12_solves_206 rfl (lv_at hl 1 rfl) ?_
                        refine lv_imul hx hb dX12_solves_207 ?_
                        refine lv_topi (fun x_31 e_31 => ?_)
                        have h9 : x_31 = nI (9 * i) := by rw [e_31]; exact pk_mul 9 i
                        subst h9
                        refine lv_iload_n hx hb dX12_solves_208 rfl (lv_at hl 2 rfl) ?_
                        refine lv_iadd hx hb dX12_solves_209 ?_
                        refine lv_topi (fun x_32 e_32 => ?_)
                        have h9 : x_32 = nI (9 * i + j) := by rw [e_32, nI_add]
                        subst h9
                        refine lv_aload_n hx hb dX12_solves_210 rfl (lv_at hl 0 rfl) ?_
                        refine va_get (D := (dC, dI)) (ci := 12) (v := Value.ref m_carried) (C := RX12) (T := TX12) (N := 33) hx hb hts inX12 hown hK hP 10 rfl rfl 26 (by decide) (hts _ (gw kw_743 rfl)) (fun _ h9 => h9) rfl dX12_solves_211 ?_
                        refine lv_iload_n hx hb dX12_solves_214 rfl (lv_at hl 1 rfl) ?_
                        have h_33 : vp_in (nI i) 9 := by first | exact vp_in_nI (by omega) (by omega) | (unfold vp_in; decide) | (subst_vars; first | (unfold vp_in; decide) | exact vp_in_nI (by omega) (by omega))
                        refine va_iald hx hb hK hP 3 0 rfl rfl h_33 dX12_solves_215 ?_
                        refine lv_topi (fun x_34 e_34 => ?_)
                        have h9 : x_34 = 0 := by rw [e_34, nI_clamp (by omega)]; exact hci
                        subst h9
                        refine lv_iconst (v := 1) hx hb dX12_solves_216 (by decide) ?_
                        refine lv_icmp_ne (tgt := 234) hx hb dX12_solves_217 (by decide) (fun c_35 => ?_) (fun c_35 => ?_)
                        · refine lv_iload_n hx hb dX12_solves_234 rfl (lv_at hl 2 rfl) ?_
                          refine lv_iload_n hx hb dX12_solves_235 rfl (lv_at hl 1 rfl) ?_
                          refine lv_icmp_ne (tgt := 243) hx hb dX12_solves_236 (by decide) (fun c_36 => ?_) (fun c_36 => ?_)
                          · refine lv_aload_n hx hb dX12_solves_243 rfl (lv_at hl 0 rfl) ?_
                            refine va_get (D := (dC, dI)) (ci := 12) (v := Value.ref m_gets) (C := RX12) (T := TX12) (N := 33) hx hb hts inX12 hown hK hP 10 rfl rfl 22 (by decide) (hts _ (gw kw_739 rfl)) (fun _ h9 => h9) rfl dX12_solves_244 ?_
                            refine lv_bipush (v := 9) hx hb dX12_solves_247 (by decide) ?_
                            refine lv_iload_n hx hb dX12_solves_249 rfl (lv_at hl 1 rfl) ?_
                            refine lv_iconst (v := 1) hx hb dX12_solves_250 (by decide) ?_
                            refine lv_iadd hx hb dX12_solves_251 ?_
                            refine lv_topi (fun x_37 e_37 => ?_)
                            have h9 : x_37 = nI (i + 1) := by rw [e_37, nI_1]
                            subst h9
                            refine lv_imul hx hb dX12_solves_252 ?_
                            refine lv_topi (fun x_38 e_38 => ?_)
                            have h9 : x_38 = nI (9 * (i + 1)) := by rw [e_38]; exact pk_mul 9 (i + 1)
                            subst h9
                            refine lv_iload_n hx hb dX12_solves_253 rfl (lv_at hl 2 rfl) ?_
                            refine lv_iadd hx hb dX12_solves_254 ?_
                            refine lv_topi (fun x_39 e_39 => ?_)
                            have h9 : x_39 = nI (9 * (i + 1) + j) := by rw [e_39, nI_add]
                            subst h9
                            have h_40 : vp_in (nI (9 * (i + 1) + j)) 90 := by first | exact vp_in_nI (by omega) (by omega) | (unfold vp_in; decide) | (subst_vars; first | (unfold vp_in; decide) | exact vp_in_nI (by omega) (by omega))
                            refine va_iald hx hb hK hP 0 0 rfl rfl h_40 dX12_solves_255 ?_
                            refine lv_topi (fun x_41 e_41 => ?_)
                            have h9 : x_41 = iI (zS pl i j) := by rw [e_41, nI_clamp (by omega), hgfr _ (by omega), hm2.2.2.1 j (by have : ¬ j = i := (fun q => c_36 (by rw [q])); omega) hlt, hS1 j (by omega), if_neg (fun q => c_36 (by rw [q]))]
                            subst h9
                            have h_42 : vp_in (nI (9 * i + j)) 90 := by first | exact vp_in_nI (by omega) (by omega) | (unfold vp_in; decide) | (subst_vars; first | (unfold vp_in; decide) | exact vp_in_nI (by omega) (by omega))
                            refine va_iast hx hb hK hP hD hS 0 0 rfl rfl h_42 dX12_solves_256 (fun H locs hP hD hS => ?_)
                            obtain ⟨f_43, e_f_43⟩ : ∃ y : Nat → Int32, y = upd gc (nI (9 * i + j) : Int32).toNatClampNeg (iI (zS pl i j)) := ⟨_, rfl⟩
                            have hpd9 : PDx (dC, dI) classes A H [cI aC m_gets 90 f_43, cI aC m_yes 9 yc, cI aC m_ends 9 f_29, cI aC m_carried 9 f_21, cI aC m_kind 9 kf, cI aC m_figure 9 ff, cI aC m_setting 5 stf, cI aC m_price 81 pc9, cI aC m_offer 81 u_4, cI aC m_buys 9 u_5, oX12 g0 m_refused m_kind m_figure m_weight m_got m_setting (nI n) msy mdn m_tape m_letter m_letterAt m_told tp mat stm m_kept him ki crs m_price m_offer m_gets m_yes m_buys m_ends m_carried m_row rm m_keptRow m_likeGets m_likePrice m_ahead, cI aC m_weight 9 wf] := by rw [e_f_43]; exact ⟨hP, hD⟩
                            have hP := hpd9.1
                            have hD := hpd9.2
                            clear hpd9
                            obtain ⟨x_44, e_44⟩ : ∃ y : Int32, y = (nI j) + 1 := ⟨_, rfl⟩
                            refine lv_iinc (v := x_44) (lv' := [(2, Value.int x_44), (0, Value.ref g0), (1, Value.int (nI i))]) hx hb dX12_solves_257 hl (k := 2) rfl (by rw [e_44]; rfl) (by decide) rfl (fun ls hl => ?_)
                            have h9 : x_44 = nI (j + 1) := by rw [e_44, nI_1]
                            subst h9
                            refine lv_goto (tgt := 192) hx hb dX12_solves_260 (by decide) ?_
                            exact ih_192 (j + 1) f_43 (ms_lt hlt hfu) (by omega) (fun q h1 h2 => by rw [e_f_43, nI_clamp (by omega)]; by_cases e : q = j <;> first | (rw [e, pk_us]; done) | (rw [pk_un (by omega)]; exact hg1 q h1 (by omega))) (fun k hk => by rw [e_f_43, nI_clamp (by omega), pk_un (by omega)]; exact hgfr k hk) _ _ _ (hP.sub [0, 1, 2, 3, 4, 5, 6, 7, 8, 9, 10, 11] rfl) (hD.sub [0, 1, 2, 3, 4, 5, 6, 7, 8, 9, 10, 11] (by decide) rfl) hS (lv_sub hl [1, 2, 0] rfl)
                          · refine lv_iconst (v := -1) hx hb dX12_solves_239 (by decide) ?_
                            refine lv_goto (tgt := 256) hx hb dX12_solves_240 (by decide) ?_
                            refine lv_topi (fun x_45 e_45 => ?_)
                            have h9 : x_45 = iI (zS pl i j) := by rw [e_45, hS1 j (by omega), if_pos ((nI_eq (by omega) (by omega)).mp c_36)]; rfl
                            subst h9
                            have h_46 : vp_in (nI (9 * i + j)) 90 := by first | exact vp_in_nI (by omega) (by omega) | (unfold vp_in; decide) | (subst_vars; first | (unfold vp_in; decide) | exact vp_in_nI (by omega) (by omega))
                            refine va_iast hx hb hK hP hD hS 0 0 rfl rfl h_46 dX12_solves_256 (fun H locs hP hD hS => ?_)
                            obtain ⟨f_47, e_f_47⟩ : ∃ y : Nat → Int32, y = upd gc (nI (9 * i + j) : Int32).toNatClampNeg (iI (zS pl i j)) := ⟨_, rfl⟩
                            have hpd9 : PDx (dC, dI) classes A H [cI aC m_gets 90 f_47, cI aC m_yes 9 yc, cI aC m_ends 9 f_29, cI aC m_carried 9 f_21, cI aC m_kind 9 kf, cI aC m_figure 9 ff, cI aC m_setting 5 stf, cI aC m_price 81 pc9, cI aC m_offer 81 u_4, cI aC m_buys 9 u_5, oX12 g0 m_refused m_kind m_figure m_weight m_got m_setting (nI n) msy mdn m_tape m_letter m_letterAt m_told tp mat stm m_kept him ki crs m_price m_offer m_gets m_yes m_buys m_ends m_carried m_row rm m_keptRow m_likeGets m_likePrice m_ahead, cI aC m_weight 9 wf] := by rw [e_f_47]; exact ⟨hP, hD⟩
                            have hP := hpd9.1
                            have hD := hpd9.2
                            clear hpd9
                            obtain ⟨x_48, e_48⟩ : ∃ y : Int32, y = (nI j) + 1 := ⟨_, rfl⟩
                            refine lv_iinc (v := x_48) (lv' := [(2, Value.int x_48), (0, Value.ref g0), (1, Value.int (nI i))]) hx hb dX12_solves_257 hl (k := 2) rfl (by rw [e_48]; rfl) (by decide) rfl (fun ls hl => ?_)
                            have h9 : x_48 = nI (j + 1) := by rw [e_48, nI_1]
                            subst h9
                            refine lv_goto (tgt := 192) hx hb dX12_solves_260 (by decide) ?_
                            exact ih_192 (j + 1) f_47 (ms_lt hlt hfu) (by omega) (fun q h1 h2 => by rw [e_f_47, nI_clamp (by omega)]; by_cases e : q = j <;> first | (rw [e, pk_us]; done) | (rw [pk_un (by omega)]; exact hg1 q h1 (by omega))) (fun k hk => by rw [e_f_47, nI_clamp (by omega), pk_un (by omega)]; exact hgfr k hk) _ _ _ (hP.sub [0, 1, 2, 3, 4, 5, 6, 7, 8, 9, 10, 11] rfl) (hD.sub [0, 1, 2, 3, 4, 5, 6, 7, 8, 9, 10, 11] (by decide) rfl) hS (lv_sub hl [1, 2, 0] rfl)
                        · exact absurd c_35 (by decide)
                  exact lp_192 ((n - i) + 1) i gf (Nat.lt_succ_self _) (by omega) (fun q h1 h2 => by omega) (fun k _ => rfl) _ _ _ (hP.sub [0, 1, 2, 3, 4, 5, 6, 7, 8, 9, 10, 11] rfl) (hD.sub [0, 1, 2, 3, 4, 5, 6, 7, 8, 9, 10, 11] (by decide) rfl) hS (lv_sub hl [1, 2, 0] rfl)
                · exact absurd c_24 (by decide)
              · refine lv_iconst (v := 1) hx hb dX12_solves_156 (by decide) ?_
                refine lv_goto (tgt := 161) hx hb dX12_solves_157 (by decide) ?_
                have hcn : CNDs n W0 (stf 1) i (zY pl i) := by
                  by_cases q : CNDs n W0 (stf 1) i (zY pl i)
                  · exact q
                  · exact absurd (by rw [hz_150, if_neg (fun z => q (hcnd.mpr z))]) c_19
                have h_49 : vp_in (nI i) 9 := by first | exact vp_in_nI (by omega) (by omega) | (unfold vp_in; decide) | (subst_vars; first | (unfold vp_in; decide) | exact vp_in_nI (by omega) (by omega))
                refine va_iast hx hb hK hP hD hS 3 0 rfl rfl h_49 dX12_solves_161 (fun H locs hP hD hS => ?_)
                obtain ⟨f_50, e_f_50⟩ : ∃ y : Nat → Int32, y = upd cf (nI i : Int32).toNatClampNeg 1 := ⟨_, rfl⟩
                have hpd9 : PDx (dC, dI) classes A H [cI aC m_gets 90 gf, cI aC m_yes 9 yc, cI aC m_ends 9 ef, cI aC m_carried 9 f_50, cI aC m_kind 9 kf, cI aC m_figure 9 ff, cI aC m_setting 5 stf, cI aC m_price 81 pc9, cI aC m_offer 81 u_4, cI aC m_buys 9 u_5, oX12 g0 m_refused m_kind m_figure m_weight m_got m_setting (nI n) msy mdn m_tape m_letter m_letterAt m_told tp mat stm m_kept him ki crs m_price m_offer m_gets m_yes m_buys m_ends m_carried m_row rm m_keptRow m_likeGets m_likePrice m_ahead, cI aC m_weight 9 wf] := by rw [e_f_50]; exact ⟨hP, hD⟩
                have hP := hpd9.1
                have hD := hpd9.2
                clear hpd9
                have hci : f_50 i = 1 := by rw [e_f_50, nI_clamp (by omega), pk_us]
                have hco : ∀ q, q ≠ i → f_50 q = cf q := fun q h => by rw [e_f_50, nI_clamp (by omega), pk_un h]
                obtain ⟨hE1, hS1⟩ := hst.2.2.2.1 hcn
                refine lv_aload_n hx hb dX12_solves_162 rfl (lv_at hl 0 rfl) ?_
                refine va_get (D := (dC, dI)) (ci := 12) (v := Value.ref m_ends) (C := RX12) (T := TX12) (N := 33) hx hb hts inX12 hown hK hP 10 rfl rfl 25 (by decide) (hts _ (gw kw_742 rfl)) (fun _ h9 => h9) rfl dX12_solves_163 ?_
                refine lv_iload_n hx hb dX12_solves_166 rfl (lv_at hl 1 rfl) ?_
                refine lv_aload_n hx hb dX12_solves_167 rfl (lv_at hl 0 rfl) ?_
                refine va_get (D := (dC, dI)) (ci := 12) (v := Value.ref m_carried) (C := RX12) (T := TX12) (N := 33) hx hb hts inX12 hown hK hP 10 rfl rfl 26 (by decide) (hts _ (gw kw_743 rfl)) (fun _ h9 => h9) rfl dX12_solves_168 ?_
                refine lv_iload_n hx hb dX12_solves_171 rfl (lv_at hl 1 rfl) ?_
                have h_51 : vp_in (nI i) 9 := by first | exact vp_in_nI (by omega) (by omega) | (unfold vp_in; decide) | (subst_vars; first | (unfold vp_in; decide) | exact vp_in_nI (by omega) (by omega))
                refine va_iald hx hb hK hP 3 0 rfl rfl h_51 dX12_solves_172 ?_
                refine lv_topi (fun x_52 e_52 => ?_)
                have h9 : x_52 = 1 := by rw [e_52, nI_clamp (by omega)]; exact hci
                subst h9
                refine lv_iconst (v := 1) hx hb dX12_solves_173 (by decide) ?_
                refine lv_icmp_ne (tgt := 181) hx hb dX12_solves_174 (by decide) (fun c_53 => ?_) (fun c_53 => ?_)
                · exact absurd rfl c_53
                · refine lv_iload_n hx hb dX12_solves_177 rfl (lv_at hl 1 rfl) ?_
                  refine lv_goto (tgt := 189) hx hb dX12_solves_178 (by decide) ?_
                  have h_54 : vp_in (nI i) 9 := by first | exact vp_in_nI (by omega) (by omega) | (unfold vp_in; decide) | (subst_vars; first | (unfold vp_in; decide) | exact vp_in_nI (by omega) (by omega))
                  refine va_iast hx hb hK hP hD hS 2 0 rfl rfl h_54 dX12_solves_189 (fun H locs hP hD hS => ?_)
                  obtain ⟨f_55, e_f_55⟩ : ∃ y : Nat → Int32, y = upd ef (nI i : Int32).toNatClampNeg (nI i) := ⟨_, rfl⟩
                  have hpd9 : PDx (dC, dI) classes A H [cI aC m_gets 90 gf, cI aC m_yes 9 yc, cI aC m_ends 9 f_55, cI aC m_carried 9 f_50, cI aC m_kind 9 kf, cI aC m_figure 9 ff, cI aC m_setting 5 stf, cI aC m_price 81 pc9, cI aC m_offer 81 u_4, cI aC m_buys 9 u_5, oX12 g0 m_refused m_kind m_figure m_weight m_got m_setting (nI n) msy mdn m_tape m_letter m_letterAt m_told tp mat stm m_kept him ki crs m_price m_offer m_gets m_yes m_buys m_ends m_carried m_row rm m_keptRow m_likeGets m_likePrice m_ahead, cI aC m_weight 9 wf] := by rw [e_f_55]; exact ⟨hP, hD⟩
                  have hP := hpd9.1
                  have hD := hpd9.2
                  clear hpd9
                  have hei : f_55 i = zE pl i := by rw [e_f_55, nI_clamp (by omega), pk_us, hE1]
                  have heo : ∀ q, q ≠ i → f_55 q = ef q := fun q h => by rw [e_f_55, nI_clamp (by omega), pk_un h]
                  refine lv_iload_n hx hb dX12_solves_190 rfl (lv_at hl 1 rfl) ?_
                  refine lv_istore_n (lv' := [(2, Value.int (nI i)), (0, Value.ref g0), (1, Value.int (nI i))]) hx hb dX12_solves_191 rfl hl (by decide) rfl (fun ls hl => ?_)
                  have lp_192 : ∀ (fu : Nat) (j : Nat) (gc : Nat → Int32) (hfu : n - j < fu) (hj : i ≤ j ∧ j ≤ n) (hg1 : ∀ q, i ≤ q → q < j → gc (9 * i + q) = iI (zS pl i q)) (hgfr : ∀ k, k < 9 * i ∨ 9 * i + 9 ≤ k → gc k = gf k) (H : Heap) (locs : List Loc) (ls : Array Slot), va_P (dC, dI) classes [cI aC m_gets 90 gc, cI aC m_yes 9 yc, cI aC m_ends 9 f_55, cI aC m_carried 9 f_50, cI aC m_kind 9 kf, cI aC m_figure 9 ff, cI aC m_setting 5 stf, cI aC m_price 81 pc9, cI aC m_offer 81 u_4, cI aC m_buys 9 u_5, oX12 g0 m_refused m_kind m_figure m_weight m_got m_setting (nI n) msy mdn m_tape m_letter m_letterAt m_told tp mat stm m_kept him ki crs m_price m_offer m_gets m_yes m_buys m_ends m_carried m_row rm m_keptRow m_likeGets m_likePrice m_ahead, cI aC m_weight 9 wf] H → va_D A [cI aC m_gets 90 gc, cI aC m_yes 9 yc, cI aC m_ends 9 f_55, cI aC m_carried 9 f_50, cI aC m_kind 9 kf, cI aC m_figure 9 ff, cI aC m_setting 5 stf, cI aC m_price 81 pc9, cI aC m_offer 81 u_4, cI aC m_buys 9 u_5, oX12 g0 m_refused m_kind m_figure m_weight m_got m_setting (nI n) msy mdn m_tape m_letter m_letterAt m_told tp mat stm m_kept him ki crs m_price m_offer m_gets m_yes m_buys m_ends m_carried m_row rm m_keptRow m_likeGets m_likePrice m_ahead, cI aC m_weight 9 wf] → va_S A s.heap H locs → lv_has ls 3 [(0, Value.ref g0), (1, Value.int (nI i)), (2, Value.int (nI j))] → W p l e (headSpec (wW yX12_solves cX12_solves 3 (none : Option FieldType)) ({ frames := 3, cells := 0, slots := 0, locals := 72 } : Room)).room s m ([Value.ref g0, Value.int (nI i)] : List Value).toArray below meth c H locs 0 0 (MQ below (va_Qv (fun (u : (Nat → Int32) × (Nat → Int32) × (Nat → Int32) × (Nat → Int32) × (Nat → Int32) × (Nat → Int32) × (Nat → Int32)) => match u with | (pf2, of2, gf2, yf2, bf2, ef2, cf2) => MMT n W0 (stf 1) pl pf2 of2 gf2 yf2 bf2 ef2 cf2 i ∧ (∀ k, k < 9 * i ∨ 9 * i + 9 ≤ k → pf2 k = pf k ∧ of2 k = of k ∧ gf2 k = gf k) ∧ ∀ q, q ≠ i → yf2 q = yf q ∧ bf2 q = bf q ∧ ef2 q = ef q ∧ cf2 q = cf q) (fun (u : (Nat → Int32) × (Nat → Int32) × (Nat → Int32) × (Nat → Int32) × (Nat → Int32) × (Nat → Int32) × (Nat → Int32)) (t : State) => match u with | (pf2, of2, gf2, yf2, bf2, ef2, cf2) => va_P (dC, dI) classes [oX12 g0 m_refused m_kind m_figure m_weight m_got m_setting (nI n) msy mdn m_tape m_letter m_letterAt m_told tp mat stm m_kept him ki crs m_price m_offer m_gets m_yes m_buys m_ends m_carried m_row rm m_keptRow m_likeGets m_likePrice m_ahead, cI aC m_kind 9 kf, cI aC m_figure 9 ff, cI aC m_weight 9 wf, cI aC m_setting 5 stf, cI aC m_price 81 pf2, cI aC m_offer 81 of2, cI aC m_gets 90 gf2, cI aC m_yes 9 yf2, cI aC m_buys 9 bf2, cI aC m_ends 9 ef2, cI aC m_carried 9 cf2] t.heap ∧ va_K (dC, dI) classes (TY aC) t ∧ va_D A [oX12 g0 m_refused m_kind m_figure m_weight m_got m_setting (nI n) msy mdn m_tape m_letter m_letterAt m_told tp mat stm m_kept him ki crs m_price m_offer m_gets m_yes m_buys m_ends m_carried m_row rm m_keptRow m_likeGets m_likePrice m_ahead, cI aC m_kind 9 kf, cI aC m_figure 9 ff, cI aC m_weight 9 wf, cI aC m_setting 5 stf, cI aC m_price 81 pf2, cI aC m_offer 81 of2, cI aC m_gets 90 gf2, cI aC m_yes 9 yf2, cI aC m_buys 9 bf2, cI aC m_ends 9 ef2, cI aC m_carried 9 cf2]) A) ([Value.ref g0, Value.int (nI i)] : List Value).toArray s 0 0 A) (F0 m 192 ls []) := by
                    intro fu
                    induction fu with
                    | zero => intro j gc hfu; exact absurd hfu (Nat.not_lt_zero _)
                    | succ fu ih_192 =>
                      intro j gc hfu hj hg1 hgfr H locs ls hP hD hS hl
                      refine lv_iload_n hx hb dX12_solves_192 rfl (lv_at hl 2 rfl) ?_
                      refine lv_aload_n hx hb dX12_solves_193 rfl (lv_at hl 0 rfl) ?_
                      refine va_get (D := (dC, dI)) (ci := 12) (v := Value.int (nI n)) (C := RX12) (T := TX12) (N := 33) hx hb hts inX12 hown hK hP 10 rfl rfl 6 (by decide) (hts _ (gw kw_723 rfl)) (fun _ h9 => h9) rfl dX12_solves_194 ?_
                      refine lv_icmp_ge (tgt := 263) hx hb dX12_solves_197 (by decide) (fun c_56 => ?_) (fun c_56 => ?_)
                      · have hjn : j = n := by
                          rcases Nat.lt_or_ge j n with q | q
                          · exact absurd c_56 (nI_ge q (by omega))
                          · omega
                        have hpd9 := pd_N (cx := [oX12 g0 m_refused m_kind m_figure m_weight m_got m_setting (nI n) msy mdn m_tape m_letter m_letterAt m_told tp mat stm m_kept him ki crs m_price m_offer m_gets m_yes m_buys m_ends m_carried m_row rm m_keptRow m_likeGets m_likePrice m_ahead, cI aC m_kind 9 kf, cI aC m_figure 9 ff, cI aC m_weight 9 wf, cI aC m_setting 5 stf, cI aC m_price 81 pc9, cI aC m_offer 81 u_4, cI aC m_gets 90 gc, cI aC m_yes 9 yc, cI aC m_buys 9 u_5, cI aC m_ends 9 f_55, cI aC m_carried 9 f_50]) hP hD [10, 4, 5, 11, 6, 7, 8, 0, 1, 9, 2, 3] (by decide) rfl
                        have hP9 := hpd9.1
                        have hD9 := hpd9.2
                        refine W.widen (k := 0) (n := 0) (by omega) (by omega) ?_
                        exact W.vret hx hb hr (fun t ht hW => ⟨⟨(pc9, u_4, gc, yc, u_5, f_55, f_50), rfl, ⟨⟨fun q h1 h2 => hPn q h1 h2, hO1, fun q h1 h2 => hg1 q h1 (by omega), hY, hB1, hei, ⟨fun _ => hci, fun q => absurd hcn q⟩⟩, fun k hk => ⟨hpfr k hk, hO2 k hk, hgfr k hk⟩, fun q h => ⟨hy2 q h, hB2 q h, heo q h, hco q h⟩⟩, by rw [ht]; exact hP9, va_K.moved hW.alike hK, hD9⟩, hS.F ht⟩) hS.2.2 dX12_solves_263
                      · have hlt : j < n := by
                          rcases Nat.lt_or_ge j n with q | q
                          · exact q
                          · exact absurd (nI_le q (by omega)) c_56
                        refine lv_aload_n hx hb dX12_solves_200 rfl (lv_at hl 0 rfl) ?_
                        refine va_get (D := (dC, dI)) (ci := 12) (v := Value.ref m_gets) (C := RX12) (T := TX12) (N := 33) hx hb hts inX12 hown hK hP 10 rfl rfl 22 (by decide) (hts _ (gw kw_739 rfl)) (fun _ h9 => h9) rfl dX12_solves_201 ?_
                        refine lv_bipush (v := 9) hx hb dX12_solves_204 (by decide) ?_
                        refine lv_iload_n hx hb dX12_solves_206 rfl (lv_at hl 1 rfl) ?_
                        refine lv_imul hx hb dX12_solves_207 ?_
                        refine lv_topi (fun x_57 e_57 => ?_)
                        have h9 : x_57 = nI (9 * i) := by rw [e_57]; exact pk_mul 9 i
                        subst h9
                        refine lv_iload_n hx hb dX12_solves_208 rfl (lv_at hl 2 rfl) ?_
                        refine lv_iadd hx hb dX12_solves_209 ?_
                        refine lv_topi (fun x_58 e_58 => ?_)
                        have h9 : x_58 = nI (9 * i + j) := by rw [e_58, nI_add]
                        subst h9
                        refine lv_aload_n hx hb dX12_solves_210 rfl (lv_at hl 0 rfl) ?_
                        refine va_get (D := (dC, dI)) (ci := 12) (v := Value.ref m_carried) (C := RX12) (T := TX12) (N := 33) hx hb hts inX12 hown hK hP 10 rfl rfl 26 (by decide) (hts _ (gw kw_743 rfl)) (fun _ h9 => h9) rfl dX12_solves_211 ?_
                        refine lv_iload_n hx hb dX12_solves_214 rfl (lv_at hl 1 rfl) ?_
                        have h_59 : vp_in (nI i) 9 := by first | exact vp_in_nI (by omega) (by omega) | (unfold vp_in; decide) | (subst_vars; first | (unfold vp_in; decide) | exact vp_in_nI (by omega) (by omega))
                        refine va_iald hx hb hK hP 3 0 rfl rfl h_59 dX12_solves_215 ?_
                        refine lv_topi (fun x_60 e_60 => ?_)
                        have h9 : x_60 = 1 := by rw [e_60, nI_clamp (by omega)]; exact hci
                        subst h9
                        refine lv_iconst (v := 1) hx hb dX12_solves_216 (by decide) ?_
                        refine lv_icmp_ne (tgt := 234) hx hb dX12_solves_217 (by decide) (fun c_61 => ?_) (fun c_61 => ?_)
                        · exact absurd rfl c_61
                        · refine lv_aload_n hx hb dX12_solves_220 rfl (lv_at hl 0 rfl) ?_
                          refine va_get (D := (dC, dI)) (ci := 12) (v := Value.ref m_offer) (C := RX12) (T := TX12) (N := 33) hx hb hts inX12 hown hK hP 10 rfl rfl 21 (by decide) (hts _ (gw kw_738 rfl)) (fun _ h9 => h9) rfl dX12_solves_221 ?_
                          refine lv_bipush (v := 9) hx hb dX12_solves_224 (by decide) ?_
                          refine lv_iload_n hx hb dX12_solves_226 rfl (lv_at hl 1 rfl) ?_
                          refine lv_imul hx hb dX12_solves_227 ?_
                          refine lv_topi (fun x_62 e_62 => ?_)
                          have h9 : x_62 = nI (9 * i) := by rw [e_62]; exact pk_mul 9 i
                          subst h9
                          refine lv_iload_n hx hb dX12_solves_228 rfl (lv_at hl 2 rfl) ?_
                          refine lv_iadd hx hb dX12_solves_229 ?_
                          refine lv_topi (fun x_63 e_63 => ?_)
                          have h9 : x_63 = nI (9 * i + j) := by rw [e_63, nI_add]
                          subst h9
                          have h_64 : vp_in (nI (9 * i + j)) 81 := by first | exact vp_in_nI (by omega) (by omega) | (unfold vp_in; decide) | (subst_vars; first | (unfold vp_in; decide) | exact vp_in_nI (by omega) (by omega))
                          refine va_iald hx hb hK hP 8 0 rfl rfl h_64 dX12_solves_230 ?_
                          refine lv_topi (fun x_65 e_65 => ?_)
                          refine lv_goto (tgt := 256) hx hb dX12_solves_231 (by decide) ?_
                          have h9 : x_65 = iI (zS pl i j) := by rw [e_65, nI_clamp (by omega), hO1 j hlt, hS1 j (by omega), nI_iI]
                          subst h9
                          have h_66 : vp_in (nI (9 * i + j)) 90 := by first | exact vp_in_nI (by omega) (by omega) | (unfold vp_in; decide) | (subst_vars; first | (unfold vp_in; decide) | exact vp_in_nI (by omega) (by omega))
                          refine va_iast hx hb hK hP hD hS 0 0 rfl rfl h_66 dX12_solves_256 (fun H locs hP hD hS => ?_)
                          obtain ⟨f_67, e_f_67⟩ : ∃ y : Nat → Int32, y = upd gc (nI (9 * i + j) : Int32).toNatClampNeg (iI (zS pl i j)) := ⟨_, rfl⟩
                          have hpd9 : PDx (dC, dI) classes A H [cI aC m_gets 90 f_67, cI aC m_yes 9 yc, cI aC m_ends 9 f_55, cI aC m_carried 9 f_50, cI aC m_kind 9 kf, cI aC m_figure 9 ff, cI aC m_setting 5 stf, cI aC m_price 81 pc9, cI aC m_offer 81 u_4, cI aC m_buys 9 u_5, oX12 g0 m_refused m_kind m_figure m_weight m_got m_setting (nI n) msy mdn m_tape m_letter m_letterAt m_told tp mat stm m_kept him ki crs m_price m_offer m_gets m_yes m_buys m_ends m_carried m_row rm m_keptRow m_likeGets m_likePrice m_ahead, cI aC m_weight 9 wf] := by rw [e_f_67]; exact ⟨hP, hD⟩
                          have hP := hpd9.1
                          have hD := hpd9.2
                          clear hpd9
                          obtain ⟨x_68, e_68⟩ : ∃ y : Int32, y = (nI j) + 1 := ⟨_, rfl⟩
                          refine lv_iinc (v := x_68) (lv' := [(2, Value.int x_68), (0, Value.ref g0), (1, Value.int (nI i))]) hx hb dX12_solves_257 hl (k := 2) rfl (by rw [e_68]; rfl) (by decide) rfl (fun ls hl => ?_)
                          have h9 : x_68 = nI (j + 1) := by rw [e_68, nI_1]
                          subst h9
                          refine lv_goto (tgt := 192) hx hb dX12_solves_260 (by decide) ?_
                          exact ih_192 (j + 1) f_67 (ms_lt hlt hfu) (by omega) (fun q h1 h2 => by rw [e_f_67, nI_clamp (by omega)]; by_cases e : q = j <;> first | (rw [e, pk_us]; done) | (rw [pk_un (by omega)]; exact hg1 q h1 (by omega))) (fun k hk => by rw [e_f_67, nI_clamp (by omega), pk_un (by omega)]; exact hgfr k hk) _ _ _ (hP.sub [0, 1, 2, 3, 4, 5, 6, 7, 8, 9, 10, 11] rfl) (hD.sub [0, 1, 2, 3, 4, 5, 6, 7, 8, 9, 10, 11] (by decide) rfl) hS (lv_sub hl [1, 2, 0] rfl)
                  exact lp_192 ((n - i) + 1) i gf (Nat.lt_succ_self _) (by omega) (fun q h1 h2 => by omega) (fun k _ => rfl) _ _ _ (hP.sub [0, 1, 2, 3, 4, 5, 6, 7, 8, 9, 10, 11] rfl) (hD.sub [0, 1, 2, 3, 4, 5, 6, 7, 8, 9, 10, 11] (by decide) rfl) hS (lv_sub hl [1, 2, 0] rfl)
            · have hlt : j < n := by
                rcases Nat.lt_or_ge j n with q | q
                · exact q
                · exact absurd (nI_le q (by omega)) c_10
              have hzp := zP_le hpl (HF_of hev) hj.1 hlt
              have hzo := (hpl i hin).2.1 j
              refine lv_aload_n hx hb dX12_solves_73 rfl (lv_at hl 0 rfl) ?_
              refine va_get (D := (dC, dI)) (ci := 12) (v := Value.ref m_yes) (C := RX12) (T := TX12) (N := 33) hx hb hts inX12 hown hK hP 4 rfl rfl 23 (by decide) (hts _ (gw kw_740 rfl)) (fun _ h9 => h9) rfl dX12_solves_74 ?_
              refine lv_iload_n hx hb dX12_solves_77 rfl (lv_at hl 1 rfl) ?_
              refine lv_dup2_11 hx hb dX12_solves_78 rfl rfl ?_
              have h_69 : vp_in (nI i) 9 := by first | exact vp_in_nI (by omega) (by omega) | (unfold vp_in; decide) | (subst_vars; first | (unfold vp_in; decide) | exact vp_in_nI (by omega) (by omega))
              refine va_iald hx hb hK hP 1 0 rfl rfl h_69 dX12_solves_79 ?_
              refine lv_topi (fun x_70 e_70 => ?_)
              refine lv_aload_n hx hb dX12_solves_80 rfl (lv_at hl 0 rfl) ?_
              refine va_get (D := (dC, dI)) (ci := 12) (v := Value.ref m_offer) (C := RX12) (T := TX12) (N := 33) hx hb hts inX12 hown hK hP 4 rfl rfl 21 (by decide) (hts _ (gw kw_738 rfl)) (fun _ h9 => h9) rfl dX12_solves_81 ?_
              refine lv_bipush (v := 9) hx hb dX12_solves_84 (by decide) ?_
              refine lv_iload_n hx hb dX12_solves_86 rfl (lv_at hl 1 rfl) ?_
              refine lv_imul hx hb dX12_solves_87 ?_
              refine lv_topi (fun x_71 e_71 => ?_)
              have h9 : x_71 = nI (9 * i) := by rw [e_71]; exact pk_mul 9 i
              subst h9
              refine lv_iload_n hx hb dX12_solves_88 rfl (lv_at hl 2 rfl) ?_
              refine lv_iadd hx hb dX12_solves_89 ?_
              refine lv_topi (fun x_72 e_72 => ?_)
              have h9 : x_72 = nI (9 * i + j) := by rw [e_72, nI_add]
              subst h9
              have h_73 : vp_in (nI (9 * i + j)) 81 := by first | exact vp_in_nI (by omega) (by omega) | (unfold vp_in; decide) | (subst_vars; first | (unfold vp_in; decide) | exact vp_in_nI (by omega) (by omega))
              refine va_iald hx hb hK hP 10 0 rfl rfl h_73 dX12_solves_90 ?_
              refine lv_topi (fun x_74 e_74 => ?_)
              have h9 : x_74 = nI (zO pl i j) := by rw [e_74, nI_clamp (by omega)]; exact hO1 j hlt
              subst h9
              refine lv_aload_n hx hb dX12_solves_91 rfl (lv_at hl 0 rfl) ?_
              refine va_get (D := (dC, dI)) (ci := 12) (v := Value.ref m_price) (C := RX12) (T := TX12) (N := 33) hx hb hts inX12 hown hK hP 4 rfl rfl 20 (by decide) (hts _ (gw kw_737 rfl)) (fun _ h9 => h9) rfl dX12_solves_92 ?_
              refine lv_bipush (v := 9) hx hb dX12_solves_95 (by decide) ?_
              refine lv_iload_n hx hb dX12_solves_97 rfl (lv_at hl 1 rfl) ?_
              refine lv_imul hx hb dX12_solves_98 ?_
              refine lv_topi (fun x_75 e_75 => ?_)
              have h9 : x_75 = nI (9 * i) := by rw [e_75]; exact pk_mul 9 i
              subst h9
              refine lv_iload_n hx hb dX12_solves_99 rfl (lv_at hl 2 rfl) ?_
              refine lv_iadd hx hb dX12_solves_100 ?_
              refine lv_topi (fun x_76 e_76 => ?_)
              have h9 : x_76 = nI (9 * i + j) := by rw [e_76, nI_add]
              subst h9
              have h_77 : vp_in (nI (9 * i + j)) 81 := by first | exact vp_in_nI (by omega) (by omega) | (unfold vp_in; decide) | (subst_vars; first | (unfold vp_in; decide) | exact vp_in_nI (by omega) (by omega))
              refine va_iald hx hb hK hP 9 0 rfl rfl h_77 dX12_solves_101 ?_
              refine lv_topi (fun x_78 e_78 => ?_)
              have h9 : x_78 = nI (zP pl i j) := by rw [e_78, nI_clamp (by omega)]; exact hPn j hj.1 hlt
              subst h9
              refine lv_icmp_lt (tgt := 111) hx hb dX12_solves_102 (by decide) (fun c_79 => ?_) (fun c_79 => ?_)
              · refine lv_iconst (v := 0) hx hb dX12_solves_111 (by decide) ?_
                refine lv_ior hx hb dX12_solves_112 ?_
                refine lv_topi (fun x_80 e_80 => ?_)
                have h_81 : vp_in (nI i) 9 := by first | exact vp_in_nI (by omega) (by omega) | (unfold vp_in; decide) | (subst_vars; first | (unfold vp_in; decide) | exact vp_in_nI (by omega) (by omega))
                refine va_iast hx hb hK hP hD hS 1 0 rfl rfl h_81 dX12_solves_113 (fun H locs hP hD hS => ?_)
                obtain ⟨f_82, e_f_82⟩ : ∃ y : Nat → Int32, y = upd yc (nI i : Int32).toNatClampNeg x_80 := ⟨_, rfl⟩
                have hpd9 : PDx (dC, dI) classes A H [cI aC m_gets 90 gf, cI aC m_yes 9 f_82, cI aC m_ends 9 ef, cI aC m_carried 9 cf, oX12 g0 m_refused m_kind m_figure m_weight m_got m_setting (nI n) msy mdn m_tape m_letter m_letterAt m_told tp mat stm m_kept him ki crs m_price m_offer m_gets m_yes m_buys m_ends m_carried m_row rm m_keptRow m_likeGets m_likePrice m_ahead, cI aC m_kind 9 kf, cI aC m_figure 9 ff, cI aC m_weight 9 wf, cI aC m_setting 5 stf, cI aC m_price 81 pc9, cI aC m_offer 81 u_4, cI aC m_buys 9 u_5] := by rw [e_f_82]; exact ⟨hP, hD⟩
                have hP := hpd9.1
                have hD := hpd9.2
                clear hpd9
                have hno : ¬ zP pl i j ≤ zO pl i j := fun q => by
                  have := (nI_ltI (by omega) (by omega)).mp c_79
                  omega
                have hb1 := vr_n (y := f_82 i) hy1 (by rw [e_f_82, nI_clamp (by omega), pk_us, e_80, e_70, nI_clamp (by omega)]) hno
                have hb2 : ∀ q, q ≠ i → f_82 q = yf q := fun q h => by rw [e_f_82, nI_clamp (by omega), pk_un h]; exact hy2 q h
                obtain ⟨x_83, e_83⟩ : ∃ y : Int32, y = (nI j) + 1 := ⟨_, rfl⟩
                refine lv_iinc (v := x_83) (lv' := [(2, Value.int x_83), (0, Value.ref g0), (1, Value.int (nI i))]) hx hb dX12_solves_114 hl (k := 2) rfl (by rw [e_83]; rfl) (by decide) rfl (fun ls hl => ?_)
                have h9 : x_83 = nI (j + 1) := by rw [e_83, nI_1]
                subst h9
                refine lv_goto (tgt := 65) hx hb dX12_solves_117 (by decide) ?_
                exact ih_65 (j + 1) f_82 (ms_lt hlt hfu) (by omega) (hb1) (hb2) _ _ _ (hP.sub [0, 1, 2, 3, 4, 5, 6, 7, 8, 9, 10, 11] rfl) (hD.sub [0, 1, 2, 3, 4, 5, 6, 7, 8, 9, 10, 11] (by decide) rfl) hS (lv_sub hl [1, 2, 0] rfl)
              · refine lv_iconst (v := 1) hx hb dX12_solves_105 (by decide) ?_
                refine lv_iload_n hx hb dX12_solves_106 rfl (lv_at hl 2 rfl) ?_
                refine lv_ishl hx hb dX12_solves_107 ?_
                refine lv_topi (fun x_84 e_84 => ?_)
                refine lv_goto (tgt := 112) hx hb dX12_solves_108 (by decide) ?_
                refine lv_ior hx hb dX12_solves_112 ?_
                refine lv_topi (fun x_85 e_85 => ?_)
                have h_86 : vp_in (nI i) 9 := by first | exact vp_in_nI (by omega) (by omega) | (unfold vp_in; decide) | (subst_vars; first | (unfold vp_in; decide) | exact vp_in_nI (by omega) (by omega))
                refine va_iast hx hb hK hP hD hS 1 0 rfl rfl h_86 dX12_solves_113 (fun H locs hP hD hS => ?_)
                obtain ⟨f_87, e_f_87⟩ : ∃ y : Nat → Int32, y = upd yc (nI i : Int32).toNatClampNeg x_85 := ⟨_, rfl⟩
                have hpd9 : PDx (dC, dI) classes A H [cI aC m_gets 90 gf, cI aC m_yes 9 f_87, cI aC m_ends 9 ef, cI aC m_carried 9 cf, oX12 g0 m_refused m_kind m_figure m_weight m_got m_setting (nI n) msy mdn m_tape m_letter m_letterAt m_told tp mat stm m_kept him ki crs m_price m_offer m_gets m_yes m_buys m_ends m_carried m_row rm m_keptRow m_likeGets m_likePrice m_ahead, cI aC m_kind 9 kf, cI aC m_figure 9 ff, cI aC m_weight 9 wf, cI aC m_setting 5 stf, cI aC m_price 81 pc9, cI aC m_offer 81 u_4, cI aC m_buys 9 u_5] := by rw [e_f_87]; exact ⟨hP, hD⟩
                have hP := hpd9.1
                have hD := hpd9.2
                clear hpd9
                have hyes : zP pl i j ≤ zO pl i j := by
                  rcases Nat.lt_or_ge (zO pl i j) (zP pl i j) with q | q
                  · exact absurd (nI_lt q (by omega)) c_79
                  · exact q
                have hb1 := vt_y (y := f_87 i) ⟨hj.1, by omega⟩ hy1 (by rw [e_f_87, nI_clamp (by omega), pk_us, e_85, e_84, e_70, nI_clamp (by omega)]) hyes
                have hb2 : ∀ q, q ≠ i → f_87 q = yf q := fun q h => by rw [e_f_87, nI_clamp (by omega), pk_un h]; exact hy2 q h
                obtain ⟨x_88, e_88⟩ : ∃ y : Int32, y = (nI j) + 1 := ⟨_, rfl⟩
                refine lv_iinc (v := x_88) (lv' := [(2, Value.int x_88), (0, Value.ref g0), (1, Value.int (nI i))]) hx hb dX12_solves_114 hl (k := 2) rfl (by rw [e_88]; rfl) (by decide) rfl (fun ls hl => ?_)
                have h9 : x_88 = nI (j + 1) := by rw [e_88, nI_1]
                subst h9
                refine lv_goto (tgt := 65) hx hb dX12_solves_117 (by decide) ?_
                exact ih_65 (j + 1) f_87 (ms_lt hlt hfu) (by omega) (hb1) (hb2) _ _ _ (hP.sub [0, 1, 2, 3, 4, 5, 6, 7, 8, 9, 10, 11] rfl) (hD.sub [0, 1, 2, 3, 4, 5, 6, 7, 8, 9, 10, 11] (by decide) rfl) hS (lv_sub hl [1, 2, 0] rfl)
        exact lp_65 ((n - (i + 1)) + 1) (i + 1) f_8 (Nat.lt_succ_self _) (by omega) (hy10) (hy20) _ _ _ (hP.sub [0, 1, 2, 3, 4, 5, 6, 7, 8, 9, 10, 11] rfl) (hD.sub [0, 1, 2, 3, 4, 5, 6, 7, 8, 9, 10, 11] (by decide) rfl) hS (lv_sub hl [1, 2, 0] rfl)
      · have hlt : j < n := by
          rcases Nat.lt_or_ge j n with q | q
          · exact q
          · exact absurd (nI_le q (by omega)) c_2
        obtain ⟨⟨hkf, hkle⟩, ⟨hff, hfle⟩, -⟩ := hev.2.2.2 j hlt
        refine lv_aload_n hx hb dX12_solves_12 rfl (lv_at hl 0 rfl) ?_
        refine va_get (D := (dC, dI)) (ci := 12) (v := Value.ref m_price) (C := RX12) (T := TX12) (N := 33) hx hb hts inX12 hown hK hP 0 rfl rfl 20 (by decide) (hts _ (gw kw_737 rfl)) (fun _ h9 => h9) rfl dX12_solves_13 ?_
        refine lv_bipush (v := 9) hx hb dX12_solves_16 (by decide) ?_
        refine lv_iload_n hx hb dX12_solves_18 rfl (lv_at hl 1 rfl) ?_
        refine lv_imul hx hb dX12_solves_19 ?_
        refine lv_topi (fun x_89 e_89 => ?_)
        have h9 : x_89 = nI (9 * i) := by rw [e_89]; exact pk_mul 9 i
        subst h9
        refine lv_iload_n hx hb dX12_solves_20 rfl (lv_at hl 2 rfl) ?_
        refine lv_iadd hx hb dX12_solves_21 ?_
        refine lv_topi (fun x_90 e_90 => ?_)
        have h9 : x_90 = nI (9 * i + j) := by rw [e_90, nI_add]
        subst h9
        refine lv_aload_n hx hb dX12_solves_22 rfl (lv_at hl 0 rfl) ?_
        refine lv_iload_n hx hb dX12_solves_23 rfl (lv_at hl 2 rfl) ?_
        refine lv_aload_n hx hb dX12_solves_24 rfl (lv_at hl 0 rfl) ?_
        refine va_get (D := (dC, dI)) (ci := 12) (v := Value.ref m_gets) (C := RX12) (T := TX12) (N := 33) hx hb hts inX12 hown hK hP 0 rfl rfl 22 (by decide) (hts _ (gw kw_739 rfl)) (fun _ h9 => h9) rfl dX12_solves_25 ?_
        refine lv_bipush (v := 9) hx hb dX12_solves_28 (by decide) ?_
        refine lv_iload_n hx hb dX12_solves_30 rfl (lv_at hl 1 rfl) ?_
        refine lv_iconst (v := 1) hx hb dX12_solves_31 (by decide) ?_
        refine lv_iadd hx hb dX12_solves_32 ?_
        refine lv_topi (fun x_91 e_91 => ?_)
        have h9 : x_91 = nI (i + 1) := by rw [e_91, nI_1]
        subst h9
        refine lv_imul hx hb dX12_solves_33 ?_
        refine lv_topi (fun x_92 e_92 => ?_)
        have h9 : x_92 = nI (9 * (i + 1)) := by rw [e_92]; exact pk_mul 9 (i + 1)
        subst h9
        refine lv_iload_n hx hb dX12_solves_34 rfl (lv_at hl 2 rfl) ?_
        refine lv_iadd hx hb dX12_solves_35 ?_
        refine lv_topi (fun x_93 e_93 => ?_)
        have h9 : x_93 = nI (9 * (i + 1) + j) := by rw [e_93, nI_add]
        subst h9
        have h_94 : vp_in (nI (9 * (i + 1) + j)) 90 := by first | exact vp_in_nI (by omega) (by omega) | (unfold vp_in; decide) | (subst_vars; first | (unfold vp_in; decide) | exact vp_in_nI (by omega) (by omega))
        refine va_iald hx hb hK hP 7 0 rfl rfl h_94 dX12_solves_36 ?_
        refine lv_topi (fun x_95 e_95 => ?_)
        have h9 : x_95 = iI (zS pl (i + 1) j) := by rw [e_95, nI_clamp (by omega)]; exact (hm1 (by omega)).2.2.1 j (by omega) hlt
        subst h9
        have hpd9 := pdf_N (cx := [oX12 g0 m_refused m_kind m_figure m_weight m_got m_setting (nI n) msy mdn m_tape m_letter m_letterAt m_told tp mat stm m_kept him ki crs m_price m_offer m_gets m_yes m_buys m_ends m_carried m_row rm m_keptRow m_likeGets m_likePrice m_ahead, cI aC m_kind 9 kf, cI aC m_figure 9 ff, cI aC m_setting 5 stf]) hP hD hS hA [0, 1, 2, 4] (by decide) rfl
        have hPc := hpd9.1
        have hDc := hpd9.2.1
        have hFc := hpd9.2.2
        clear hpd9
        refine va_calli (va_runV (As := [Value.int (nI j), Value.int (iI (zS pl (i + 1) j))]) (rest := [Value.int (nI (9 * i + j)), Value.ref m_price]) ⟨hx, hb, hml, hown, hts⟩ (c_X12_priceOf l dC dI aC H.size g0 m_refused m_kind m_figure m_weight m_got m_setting m_tape m_letter m_letterAt m_told m_kept m_price m_offer m_gets m_yes m_buys m_ends m_carried m_row m_keptRow m_likeGets m_likePrice m_ahead msy mdn tp mat stm him ki crs rm n kf ff stf j (zS pl (i + 1) j) (K j) (F j) ((hpl (i + 1) (by omega)).2.2 j) (by omega) (hkf) (hkle) (hff) (hfle)) ⟨(callB_of 2 hts (gG kw_904) rfl rfl rfl (hts _ (gw kw_13 rfl)) (hts _ (gw kw_901 rfl)) hd_X12_priceOf ⟨Nat.le_of_ble_eq_true rfl, Nat.le_of_ble_eq_true rfl⟩), (hts _ (gw kw_903 rfl)), (hts _ (gw ks_47 rfl))⟩ ⟨fb_std, va_recv (q := (RX12, TX12, 33)) hK hPc (ci := 12) (q0 := 0) rfl rfl, pre_std hPc hK hDc hN⟩ rfl rfl hl.1 rfl (lv_room (Nat.le_of_ble_eq_true rfl)) dX12_solves_37 ⟨Nat.le_of_ble_eq_true rfl, Nat.le_of_ble_eq_true rfl⟩) hS (fun q _ h => hFc q h) hFc (fun x_96 u9 t9 H1 locs ht hvm hw_96 hB hz1 hk1 hS => ?_)
        obtain ⟨hP1, hK1, hD1⟩ := hB
        rw [ht] at hP1
        clear hK1
        try dsimp only at hw_96
        have hpd9 : PDx (dC, dI) classes A H1 [cI aC m_weight 9 wf, cI aC m_price 81 pc9, cI aC m_offer 81 of, cI aC m_gets 90 gf, cI aC m_yes 9 yf, cI aC m_buys 9 bf, cI aC m_ends 9 ef, cI aC m_carried 9 cf, oX12 g0 m_refused m_kind m_figure m_weight m_got m_setting (nI n) msy mdn m_tape m_letter m_letterAt m_told tp mat stm m_kept him ki crs m_price m_offer m_gets m_yes m_buys m_ends m_carried m_row rm m_keptRow m_likeGets m_likePrice m_ahead, cI aC m_kind 9 kf, cI aC m_figure 9 ff, cI aC m_setting 5 stf] := jn_N (wr := [cI aC m_weight 9 wf, cI aC m_price 81 pc9, cI aC m_offer 81 of, cI aC m_gets 90 gf, cI aC m_yes 9 yf, cI aC m_buys 9 bf, cI aC m_ends 9 ef, cI aC m_carried 9 cf]) hFc hk1 hP1 hD1 hP hD [0, 1, 2, 4] [3, 5, 6, 7, 8, 9, 10, 11] rfl rfl (by decide) (by decide)
        have hP := hpd9.1
        have hD := hpd9.2
        clear hpd9
        generalize H1 = H at hP hS ⊢
        clear hPc hDc hFc hz1 hk1 hP1 hD1 ht hvm
        have h9 : x_96 = nI (zP pl i j) := by rw [hw_96, hst.1 j hj.1 hlt]
        subst h9
        have h_97 : vp_in (nI (9 * i + j)) 81 := by first | exact vp_in_nI (by omega) (by omega) | (unfold vp_in; decide) | (subst_vars; first | (unfold vp_in; decide) | exact vp_in_nI (by omega) (by omega))
        refine va_iast hx hb hK hP hD hS 1 0 rfl rfl h_97 dX12_solves_40 (fun H locs hP hD hS => ?_)
        obtain ⟨f_98, e_f_98⟩ : ∃ y : Nat → Int32, y = upd pc9 (nI (9 * i + j) : Int32).toNatClampNeg (nI (zP pl i j)) := ⟨_, rfl⟩
        have hpd9 : PDx (dC, dI) classes A H [cI aC m_weight 9 wf, cI aC m_price 81 f_98, cI aC m_offer 81 of, cI aC m_gets 90 gf, cI aC m_yes 9 yf, cI aC m_buys 9 bf, cI aC m_ends 9 ef, cI aC m_carried 9 cf, oX12 g0 m_refused m_kind m_figure m_weight m_got m_setting (nI n) msy mdn m_tape m_letter m_letterAt m_told tp mat stm m_kept him ki crs m_price m_offer m_gets m_yes m_buys m_ends m_carried m_row rm m_keptRow m_likeGets m_likePrice m_ahead, cI aC m_kind 9 kf, cI aC m_figure 9 ff, cI aC m_setting 5 stf] := by rw [e_f_98]; exact ⟨hP, hD⟩
        have hP := hpd9.1
        have hD := hpd9.2
        clear hpd9
        obtain ⟨x_99, e_99⟩ : ∃ y : Int32, y = (nI j) + 1 := ⟨_, rfl⟩
        refine lv_iinc (v := x_99) (lv' := [(2, Value.int x_99), (0, Value.ref g0), (1, Value.int (nI i))]) hx hb dX12_solves_41 hl (k := 2) rfl (by rw [e_99]; rfl) (by decide) rfl (fun ls hl => ?_)
        have h9 : x_99 = nI (j + 1) := by rw [e_99, nI_1]
        subst h9
        refine lv_goto (tgt := 4) hx hb dX12_solves_44 (by decide) ?_
        exact ih_4 (j + 1) f_98 (ms_lt hlt hfu) (by omega) (fun q h1 h2 => by rw [e_f_98, nI_clamp (by omega)]; by_cases e : q = j <;> first | (rw [e, pk_us]; done) | (rw [pk_un (by omega)]; exact hp1 q h1 (by omega))) (fun k hk => by rw [e_f_98, nI_clamp (by omega), pk_un (by omega)]; exact hpfr k hk) _ _ _ (hP.sub [8, 9, 10, 0, 11, 1, 2, 3, 4, 5, 6, 7] rfl) (hD.sub [8, 9, 10, 0, 11, 1, 2, 3, 4, 5, 6, 7] (by decide) rfl) hS (lv_sub hl [1, 2, 0] rfl)
  exact lp_4 ((n - (i + 1)) + 1) (i + 1) pf (Nat.lt_succ_self _) (by omega) (fun q h1 h2 => by omega) (fun k _ => rfl) _ _ _ (hP.sub [0, 1, 2, 3, 4, 5, 6, 7, 8, 9, 10, 11] rfl) (hD.sub [0, 1, 2, 3, 4, 5, 6, 7, 8, 9, 10, 11] (by decide) rfl) hS (lv_sub hl [1, 2, 0] rfl)

end

section
/-! 53.ref5 -/
def ALM (n : Nat) (W : Nat → Nat) (law : Int32) (pl : PLT) (pf of gf yf bf ef cf : Nat → Int32) : Prop := ∀ i, i < n → MMT n W law pl pf of gf yf bf ef cf i
theorem MMT_fr {n : Nat} {W : Nat → Nat} {law : Int32} {pl : PLT} {pf of gf yf bf ef cf pf2 of2 gf2 yf2 bf2 ef2 cf2 : Nat → Int32} {i j : Nat} (hn : n ≤ 8) (hj : j < n) (hij : j ≠ i) (h : MMT n W law pl pf of gf yf bf ef cf j) (h1 : ∀ k, k < 9 * i ∨ 9 * i + 9 ≤ k → pf2 k = pf k ∧ of2 k = of k ∧ gf2 k = gf k) (h2 : ∀ q, q ≠ i → yf2 q = yf q ∧ bf2 q = bf q ∧ ef2 q = ef q ∧ cf2 q = cf q) : MMT n W law pl pf2 of2 gf2 yf2 bf2 ef2 cf2 j := by
  obtain ⟨a1, a2, a3, a4, a5, a6, a7⟩ := h
  obtain ⟨b1, b2, b3, b4⟩ := h2 j hij
  exact ⟨fun q q1 q2 => by rw [(h1 _ (by omega)).1]; exact a1 q q1 q2, fun q q2 => by rw [(h1 _ (by omega)).2.1]; exact a2 q q2, fun q q1 q2 => by rw [(h1 _ (by omega)).2.2]; exact a3 q q1 q2, b1.trans a4, b2.trans a5, b3.trans a6, by rw [b4]; exact a7⟩

set_option maxHeartbeats 1000000 in
set_option maxRecDepth 100000 in
/-- X12_solvesAll -/
theorem c_X12_solvesAll (l : Launch) (dC : Nat → ClassId) (dI : Nat → Nat → Nat) (aC : Nat → ClassId) (sz : Nat) (g0 : Nat) (m_refused : Nat) (m_kind : Nat) (m_figure : Nat) (m_weight : Nat) (m_got : Nat) (m_setting : Nat) (m_tape : Nat) (m_letter : Nat) (m_letterAt : Nat) (m_told : Nat) (m_kept : Nat) (m_price : Nat) (m_offer : Nat) (m_gets : Nat) (m_yes : Nat) (m_buys : Nat) (m_ends : Nat) (m_carried : Nat) (m_row : Nat) (m_keptRow : Nat) (m_likeGets : Nat) (m_likePrice : Nat) (m_ahead : Nat) (msy : Int32) (mdn : Int32) (tp : Int32) (mat : Int32) (stm : Int32) (him : Int32) (ki : Int32) (crs : Int32) (rm : Int32) (n : Nat) (kf : Nat → Int32) (ff : Nat → Int32) (wf : Nat → Int32) (stf : Nat → Int32) (pf : Nat → Int32) (of : Nat → Int32) (gf : Nat → Int32) (yf : Nat → Int32) (bf : Nat → Int32) (ef : Nat → Int32) (cf : Nat → Int32) (K : Nat → Nat) (F : Nat → Nat) (W0 : Nat → Nat) (cq : Nat) (pl : PLT) (hev : EVH n K F W0 cq kf ff wf stf) (hpl : PLAN n K F W0 cq (stf 1) (stf 2) (stf 3) pl) : Met l yX12_solvesAll (wW yX12_solvesAll cX12_solvesAll 2 (none : Option FieldType)) ({ frames := 4, cells := 0, slots := 0, locals := 94 } : Room) (va_Pc [Value.ref g0] (fun U => U.heap.size = sz ∧ va_P (dC, dI) classes [oX12 g0 m_refused m_kind m_figure m_weight m_got m_setting (nI n) msy mdn m_tape m_letter m_letterAt m_told tp mat stm m_kept him ki crs m_price m_offer m_gets m_yes m_buys m_ends m_carried m_row rm m_keptRow m_likeGets m_likePrice m_ahead, cI aC m_kind 9 kf, cI aC m_figure 9 ff, cI aC m_weight 9 wf, cI aC m_setting 5 stf, cI aC m_price 81 pf, cI aC m_offer 81 of, cI aC m_gets 90 gf, cI aC m_yes 9 yf, cI aC m_buys 9 bf, cI aC m_ends 9 ef, cI aC m_carried 9 cf] U.heap ∧ va_K (dC, dI) classes (TY aC) U ∧ va_D (fun _ => True) [oX12 g0 m_refused m_kind m_figure m_weight m_got m_setting (nI n) msy mdn m_tape m_letter m_letterAt m_told tp mat stm m_kept him ki crs m_price m_offer m_gets m_yes m_buys m_ends m_carried m_row rm m_keptRow m_likeGets m_likePrice m_ahead, cI aC m_kind 9 kf, cI aC m_figure 9 ff, cI aC m_weight 9 wf, cI aC m_setting 5 stf, cI aC m_price 81 pf, cI aC m_offer 81 of, cI aC m_gets 90 gf, cI aC m_yes 9 yf, cI aC m_buys 9 bf, cI aC m_ends 9 ef, cI aC m_carried 9 cf] ∧ NX U)) (va_Qv (fun (u : (Nat → Int32) × (Nat → Int32) × (Nat → Int32) × (Nat → Int32) × (Nat → Int32) × (Nat → Int32) × (Nat → Int32)) => match u with | (pf2, of2, gf2, yf2, bf2, ef2, cf2) => ALM n W0 (stf 1) pl pf2 of2 gf2 yf2 bf2 ef2 cf2) (fun (u : (Nat → Int32) × (Nat → Int32) × (Nat → Int32) × (Nat → Int32) × (Nat → Int32) × (Nat → Int32) × (Nat → Int32)) (t : State) => match u with | (pf2, of2, gf2, yf2, bf2, ef2, cf2) => va_P (dC, dI) classes [oX12 g0 m_refused m_kind m_figure m_weight m_got m_setting (nI n) msy mdn m_tape m_letter m_letterAt m_told tp mat stm m_kept him ki crs m_price m_offer m_gets m_yes m_buys m_ends m_carried m_row rm m_keptRow m_likeGets m_likePrice m_ahead, cI aC m_kind 9 kf, cI aC m_figure 9 ff, cI aC m_weight 9 wf, cI aC m_setting 5 stf, cI aC m_price 81 pf2, cI aC m_offer 81 of2, cI aC m_gets 90 gf2, cI aC m_yes 9 yf2, cI aC m_buys 9 bf2, cI aC m_ends 9 ef2, cI aC m_carried 9 cf2] t.heap ∧ va_K (dC, dI) classes (TY aC) t ∧ va_D (va_A [oX12 g0 m_refused m_kind m_figure m_weight m_got m_setting (nI n) msy mdn m_tape m_letter m_letterAt m_told tp mat stm m_kept him ki crs m_price m_offer m_gets m_yes m_buys m_ends m_carried m_row rm m_keptRow m_likeGets m_likePrice m_ahead, cI aC m_kind 9 kf, cI aC m_figure 9 ff, cI aC m_weight 9 wf, cI aC m_setting 5 stf, cI aC m_price 81 pf, cI aC m_offer 81 of, cI aC m_gets 90 gf, cI aC m_yes 9 yf, cI aC m_buys 9 bf, cI aC m_ends 9 ef, cI aC m_carried 9 cf] sz) [oX12 g0 m_refused m_kind m_figure m_weight m_got m_setting (nI n) msy mdn m_tape m_letter m_letterAt m_told tp mat stm m_kept him ki crs m_price m_offer m_gets m_yes m_buys m_ends m_carried m_row rm m_keptRow m_likeGets m_likePrice m_ahead, cI aC m_kind 9 kf, cI aC m_figure 9 ff, cI aC m_weight 9 wf, cI aC m_setting 5 stf, cI aC m_price 81 pf2, cI aC m_offer 81 of2, cI aC m_gets 90 gf2, cI aC m_yes 9 yf2, cI aC m_buys 9 bf2, cI aC m_ends 9 ef2, cI aC m_carried 9 cf2]) (va_A [oX12 g0 m_refused m_kind m_figure m_weight m_got m_setting (nI n) msy mdn m_tape m_letter m_letterAt m_told tp mat stm m_kept him ki crs m_price m_offer m_gets m_yes m_buys m_ends m_carried m_row rm m_keptRow m_likeGets m_likePrice m_ahead, cI aC m_kind 9 kf, cI aC m_figure 9 ff, cI aC m_weight 9 wf, cI aC m_setting 5 stf, cI aC m_price 81 pf, cI aC m_offer 81 of, cI aC m_gets 90 gf, cI aC m_yes 9 yf, cI aC m_buys 9 bf, cI aC m_ends 9 ef, cI aC m_carried 9 cf] sz)) 0 0 (va_A [oX12 g0 m_refused m_kind m_figure m_weight m_got m_setting (nI n) msy mdn m_tape m_letter m_letterAt m_told tp mat stm m_kept him ki crs m_price m_offer m_gets m_yes m_buys m_ends m_carried m_row rm m_keptRow m_likeGets m_likePrice m_ahead, cI aC m_kind 9 kf, cI aC m_figure 9 ff, cI aC m_weight 9 wf, cI aC m_setting 5 stf, cI aC m_price 81 pf, cI aC m_offer 81 of, cI aC m_gets 90 gf, cI aC m_yes 9 yf, cI aC m_buys 9 bf, cI aC m_ends 9 ef, cI aC m_carried 9 cf] sz) := by
  refine Met.ofW (cc := cX12_solvesAll) (maxL := 2) (ret := (none : Option FieldType)) (by decide) rfl ?_
  intro p e s m args below meth c s₁ B hml hv
  obtain ⟨rfl, hsz, hP, hK, hD0, hN⟩ := hv
  have hx := B.exec
  have hb := B.bytes
  have hr := B.returns
  have hts0 := atoms_spec (ws := (wW yX12_solvesAll cX12_solvesAll 2 (none : Option FieldType))) B.pre
  have hts : ∀ w9 ∈ lw_G, w9.before ([Value.ref g0] : List Value).toArray s = true := fun w9 h9 => hts0 w9 (List.mem_cons_of_mem _ h9)
  have hown : s.vm.findClass RX12 = some m.cls := findClass_of_methodNamed (x := yX12_solvesAll) B.named
  have hlocks := B.notSynchronized
  subst hsz
  have hD := hD0.self (sz := s.heap.size)
  generalize hAe : va_A [oX12 g0 m_refused m_kind m_figure m_weight m_got m_setting (nI n) msy mdn m_tape m_letter m_letterAt m_told tp mat stm m_kept him ki crs m_price m_offer m_gets m_yes m_buys m_ends m_carried m_row rm m_keptRow m_likeGets m_likePrice m_ahead, cI aC m_kind 9 kf, cI aC m_figure 9 ff, cI aC m_weight 9 wf, cI aC m_setting 5 stf, cI aC m_price 81 pf, cI aC m_offer 81 of, cI aC m_gets 90 gf, cI aC m_yes 9 yf, cI aC m_buys 9 bf, cI aC m_ends 9 ef, cI aC m_carried 9 cf] s.heap.size = A at hD ⊢
  have hA : ∀ q : Nat, s.heap.size ≤ q → A q := fun q h => by rw [← hAe]; exact Or.inr h
  obtain ⟨H, hHe⟩ : ∃ H : Heap, H = s.heap := ⟨_, rfl⟩
  have hS : va_S A s.heap H [] := by rw [hHe]; exact va_S.rf
  have hP : va_P (dC, dI) classes [oX12 g0 m_refused m_kind m_figure m_weight m_got m_setting (nI n) msy mdn m_tape m_letter m_letterAt m_told tp mat stm m_kept him ki crs m_price m_offer m_gets m_yes m_buys m_ends m_carried m_row rm m_keptRow m_likeGets m_likePrice m_ahead, cI aC m_kind 9 kf, cI aC m_figure 9 ff, cI aC m_weight 9 wf, cI aC m_setting 5 stf, cI aC m_price 81 pf, cI aC m_offer 81 of, cI aC m_gets 90 gf, cI aC m_yes 9 yf, cI aC m_buys 9 bf, cI aC m_ends 9 ef, cI aC m_carried 9 cf] H := by rw [hHe]; exact hP
  have hl := lv_entry ([Value.ref g0]) (n := 2) (Nat.le_of_ble_eq_true rfl)
  rw [lg_entry_eq]
  generalize (lg_sl ([Value.ref g0]) ++ List.replicate (2 - (lg_sl ([Value.ref g0])).length) Slot.unset).toArray = ls at hl ⊢
  have hl : lv_has ls 2 [(0, Value.ref g0)] := hl
  rw [← hHe]
  have hn8 := hev.1
  refine lv_aload_n hx hb dX12_solvesAll_0 rfl (lv_at hl 0 rfl) ?_
  refine va_get (D := (dC, dI)) (ci := 12) (v := Value.int (nI n)) (C := RX12) (T := TX12) (N := 33) hx hb hts inX12 hown hK hP 0 rfl rfl 6 (by decide) (hts _ (gw kw_723 rfl)) (fun _ h9 => h9) rfl dX12_solvesAll_1 ?_
  refine lv_iconst (v := 1) hx hb dX12_solvesAll_4 (by decide) ?_
  refine lv_isub hx hb dX12_solvesAll_5 ?_
  refine lv_topi (fun x_1 e_1 => ?_)
  refine lv_istore_n (lv' := [(1, Value.int x_1), (0, Value.ref g0)]) hx hb dX12_solvesAll_6 rfl hl (by decide) rfl (fun ls hl => ?_)
  have lp_7 : ∀ (fu : Nat) (k : Nat) (x1 : Int32) (pfc : Nat → Int32) (ofc : Nat → Int32) (gfc : Nat → Int32) (yfc : Nat → Int32) (bfc : Nat → Int32) (efc : Nat → Int32) (cfc : Nat → Int32) (hfu : k < fu) (hk : k ≤ n) (hx1 : x1 = iI ((k : Int) - 1)) (hm : ∀ i, k ≤ i → i < n → MMT n W0 (stf 1) pl pfc ofc gfc yfc bfc efc cfc i) (H : Heap) (locs : List Loc) (ls : Array Slot), va_P (dC, dI) classes [oX12 g0 m_refused m_kind m_figure m_weight m_got m_setting (nI n) msy mdn m_tape m_letter m_letterAt m_told tp mat stm m_kept him ki crs m_price m_offer m_gets m_yes m_buys m_ends m_carried m_row rm m_keptRow m_likeGets m_likePrice m_ahead, cI aC m_kind 9 kf, cI aC m_figure 9 ff, cI aC m_weight 9 wf, cI aC m_setting 5 stf, cI aC m_price 81 pfc, cI aC m_offer 81 ofc, cI aC m_gets 90 gfc, cI aC m_yes 9 yfc, cI aC m_buys 9 bfc, cI aC m_ends 9 efc, cI aC m_carried 9 cfc] H → va_D A [oX12 g0 m_refused m_kind m_figure m_weight m_got m_setting (nI n) msy mdn m_tape m_letter m_letterAt m_told tp mat stm m_kept him ki crs m_price m_offer m_gets m_yes m_buys m_ends m_carried m_row rm m_keptRow m_likeGets m_likePrice m_ahead, cI aC m_kind 9 kf, cI aC m_figure 9 ff, cI aC m_weight 9 wf, cI aC m_setting 5 stf, cI aC m_price 81 pfc, cI aC m_offer 81 ofc, cI aC m_gets 90 gfc, cI aC m_yes 9 yfc, cI aC m_buys 9 bfc, cI aC m_ends 9 efc, cI aC m_carried 9 cfc] → va_S A s.heap H locs → lv_has ls 2 [(0, Value.ref g0), (1, Value.int x1)] → W p l e (headSpec (wW yX12_solvesAll cX12_solvesAll 2 (none : Option FieldType)) ({ frames := 4, cells := 0, slots := 0, locals := 94 } : Room)).room s m ([Value.ref g0] : List Value).toArray below meth c H locs 0 0 (MQ below (va_Qv (fun (u : (Nat → Int32) × (Nat → Int32) × (Nat → Int32) × (Nat → Int32) × (Nat → Int32) × (Nat → Int32) × (Nat → Int32)) => match u with | (pf2, of2, gf2, yf2, bf2, ef2, cf2) => ALM n W0 (stf 1) pl pf2 of2 gf2 yf2 bf2 ef2 cf2) (fun (u : (Nat → Int32) × (Nat → Int32) × (Nat → Int32) × (Nat → Int32) × (Nat → Int32) × (Nat → Int32) × (Nat → Int32)) (t : State) => match u with | (pf2, of2, gf2, yf2, bf2, ef2, cf2) => va_P (dC, dI) classes [oX12 g0 m_refused m_kind m_figure m_weight m_got m_setting (nI n) msy mdn m_tape m_letter m_letterAt m_told tp mat stm m_kept him ki crs m_price m_offer m_gets m_yes m_buys m_ends m_carried m_row rm m_keptRow m_likeGets m_likePrice m_ahead, cI aC m_kind 9 kf, cI aC m_figure 9 ff, cI aC m_weight 9 wf, cI aC m_setting 5 stf, cI aC m_price 81 pf2, cI aC m_offer 81 of2, cI aC m_gets 90 gf2, cI aC m_yes 9 yf2, cI aC m_buys 9 bf2, cI aC m_ends 9 ef2, cI aC m_carried 9 cf2] t.heap ∧ va_K (dC, dI) classes (TY aC) t ∧ va_D A [oX12 g0 m_refused m_kind m_figure m_weight m_got m_setting (nI n) msy mdn m_tape m_letter m_letterAt m_told tp mat stm m_kept him ki crs m_price m_offer m_gets m_yes m_buys m_ends m_carried m_row rm m_keptRow m_likeGets m_likePrice m_ahead, cI aC m_kind 9 kf, cI aC m_figure 9 ff, cI aC m_weight 9 wf, cI aC m_setting 5 stf, cI aC m_price 81 pf2, cI aC m_offer 81 of2, cI aC m_gets 90 gf2, cI aC m_yes 9 yf2, cI aC m_buys 9 bf2, cI aC m_ends 9 ef2, cI aC m_carried 9 cf2]) A) ([Value.ref g0] : List Value).toArray s 0 0 A) (F0 m 7 ls []) := by
    intro fu
    induction fu with
    | zero => intro k x1 pfc ofc gfc yfc bfc efc cfc hfu; exact absurd hfu (Nat.not_lt_zero _)
    | succ fu ih_7 =>
      intro k x1 pfc ofc gfc yfc bfc efc cfc hfu hk hx1 hm H locs ls hP hD hS hl
      refine lv_iload_n hx hb dX12_solvesAll_7 rfl (lv_at hl 1 rfl) ?_
      refine lv_if_lt (tgt := 22) hx hb dX12_solvesAll_8 (by decide) (fun c_2 => ?_) (fun c_2 => ?_)
      · have hpd9 := pd_N (cx := [oX12 g0 m_refused m_kind m_figure m_weight m_got m_setting (nI n) msy mdn m_tape m_letter m_letterAt m_told tp mat stm m_kept him ki crs m_price m_offer m_gets m_yes m_buys m_ends m_carried m_row rm m_keptRow m_likeGets m_likePrice m_ahead, cI aC m_kind 9 kf, cI aC m_figure 9 ff, cI aC m_weight 9 wf, cI aC m_setting 5 stf, cI aC m_price 81 pfc, cI aC m_offer 81 ofc, cI aC m_gets 90 gfc, cI aC m_yes 9 yfc, cI aC m_buys 9 bfc, cI aC m_ends 9 efc, cI aC m_carried 9 cfc]) hP hD [0, 1, 2, 3, 4, 5, 6, 7, 8, 9, 10, 11] (by decide) rfl
        have hP9 := hpd9.1
        have hD9 := hpd9.2
        refine W.widen (k := 0) (n := 0) (by omega) (by omega) ?_
        exact W.vret hx hb hr (fun t ht hW => ⟨⟨(pfc, ofc, gfc, yfc, bfc, efc, cfc), rfl, fun i hi => hm i (by have h9 := c_2; rw [hx1, ← iI_0, iI_lt (by unfold sm; omega) sm0] at h9; omega) hi, by rw [ht]; exact hP9, va_K.moved hW.alike hK, hD9⟩, hS.F ht⟩) hS.2.2 dX12_solvesAll_22
      · have hk1 : 1 ≤ k := by
          rcases Nat.eq_zero_or_pos k with q | q
          · subst q; exact absurd (by rw [hx1]; decide) c_2
          · exact q
        obtain ⟨i, hki⟩ : ∃ i, k = i + 1 := ⟨k - 1, by omega⟩
        subst hki
        have h9 : x1 = nI i := by rw [hx1, nI_iI]; congr 1; omega
        subst h9
        refine lv_aload_n hx hb dX12_solvesAll_11 rfl (lv_at hl 0 rfl) ?_
        refine lv_iload_n hx hb dX12_solvesAll_12 rfl (lv_at hl 1 rfl) ?_
        have hpd9 := pdf_N (cx := [oX12 g0 m_refused m_kind m_figure m_weight m_got m_setting (nI n) msy mdn m_tape m_letter m_letterAt m_told tp mat stm m_kept him ki crs m_price m_offer m_gets m_yes m_buys m_ends m_carried m_row rm m_keptRow m_likeGets m_likePrice m_ahead, cI aC m_kind 9 kf, cI aC m_figure 9 ff, cI aC m_weight 9 wf, cI aC m_setting 5 stf, cI aC m_price 81 pfc, cI aC m_offer 81 ofc, cI aC m_gets 90 gfc, cI aC m_yes 9 yfc, cI aC m_buys 9 bfc, cI aC m_ends 9 efc, cI aC m_carried 9 cfc]) hP hD hS hA [0, 1, 2, 3, 4, 5, 6, 7, 8, 9, 10, 11] (by decide) rfl
        have hPc := hpd9.1
        have hDc := hpd9.2.1
        have hFc := hpd9.2.2
        clear hpd9
        refine va_callv (va_runV (As := [Value.int (nI i)]) (rest := []) ⟨hx, hb, hml, hown, hts⟩ (c_X12_solves l dC dI aC H.size g0 m_refused m_kind m_figure m_weight m_got m_setting m_tape m_letter m_letterAt m_told m_kept m_price m_offer m_gets m_yes m_buys m_ends m_carried m_row m_keptRow m_likeGets m_likePrice m_ahead msy mdn tp mat stm him ki crs rm n kf ff wf stf pfc ofc gfc yfc bfc efc cfc K F W0 cq pl i (hev) (hpl) (by omega) (fun q => hm (i + 1) (by omega) q)) ⟨(callB_of 1 hts (gG kw_900) rfl rfl rfl (hts _ (gw kw_13 rfl)) (hts _ (gw kw_897 rfl)) hd_X12_solves ⟨Nat.le_of_ble_eq_true rfl, Nat.le_of_ble_eq_true rfl⟩), (hts _ (gw kw_899 rfl)), (hts _ (gw ks_46 rfl))⟩ ⟨fb_std, va_recv (q := (RX12, TX12, 33)) hK hPc (ci := 12) (q0 := 0) rfl rfl, pre_std hPc hK hDc hN⟩ rfl rfl hl.1 rfl (lv_room (Nat.le_of_ble_eq_true rfl)) dX12_solvesAll_13 ⟨Nat.le_of_ble_eq_true rfl, Nat.le_of_ble_eq_true rfl⟩) hS (fun q _ h => hFc q h) hFc (fun u9 t9 H1 locs ht hvm hw_3 hB hz1 hk1 hS => ?_)
        obtain ⟨u_4, u_5, u_6, u_7, u_8, u_9, u_10⟩ := u9
        obtain ⟨hP1, hK1, hD1⟩ := hB
        rw [ht] at hP1
        clear hK1
        try dsimp only at hw_3
        have hpd9 : PDx (dC, dI) classes A H1 [oX12 g0 m_refused m_kind m_figure m_weight m_got m_setting (nI n) msy mdn m_tape m_letter m_letterAt m_told tp mat stm m_kept him ki crs m_price m_offer m_gets m_yes m_buys m_ends m_carried m_row rm m_keptRow m_likeGets m_likePrice m_ahead, cI aC m_kind 9 kf, cI aC m_figure 9 ff, cI aC m_weight 9 wf, cI aC m_setting 5 stf, cI aC m_price 81 u_4, cI aC m_offer 81 u_5, cI aC m_gets 90 u_6, cI aC m_yes 9 u_7, cI aC m_buys 9 u_8, cI aC m_ends 9 u_9, cI aC m_carried 9 u_10] := jn_N (wr := []) hFc hk1 hP1 hD1 hP hD [0, 1, 2, 3, 4, 5, 6, 7, 8, 9, 10, 11] [] rfl rfl (by decide) (by decide)
        have hP := hpd9.1
        have hD := hpd9.2
        clear hpd9
        generalize H1 = H at hP hS ⊢
        clear hPc hDc hFc hz1 hk1 hP1 hD1 ht hvm
        obtain ⟨hsv1, hsv2, hsv3⟩ := hw_3
        obtain ⟨x_11, e_11⟩ : ∃ y : Int32, y = (nI i) + (-1) := ⟨_, rfl⟩
        refine lv_iinc (v := x_11) (lv' := [(1, Value.int x_11), (0, Value.ref g0)]) hx hb dX12_solvesAll_16 hl (k := 1) rfl (by rw [e_11]; rfl) (by decide) rfl (fun ls hl => ?_)
        refine lv_goto (tgt := 7) hx hb dX12_solvesAll_19 (by decide) ?_
        exact ih_7 i x_11 u_4 u_5 u_6 u_7 u_8 u_9 u_10 (by omega) (by omega) (by rw [e_11, nI_iI, show (-1 : Int32) = iI (-1) from rfl, iI_add]; rfl) (fun j q1 q2 => by by_cases e : j = i <;> first | (subst e; exact hsv1) | exact MMT_fr hn8 q2 e (hm j (by omega) q2) hsv2 hsv3) _ _ _ (hP.sub [0, 1, 2, 3, 4, 5, 6, 7, 8, 9, 10, 11] rfl) (hD.sub [0, 1, 2, 3, 4, 5, 6, 7, 8, 9, 10, 11] (by decide) rfl) hS (lv_sub hl [1, 0] rfl)
  exact lp_7 (n + 1) n x_1 pf of gf yf bf ef cf (Nat.lt_succ_self _) (Nat.le_refl n) (by rw [e_1, nI_iI, ← iI_1, iI_sub]) (fun i q1 q2 => by omega) _ _ _ (hP.sub [0, 1, 2, 3, 4, 5, 6, 7, 8, 9, 10, 11] rfl) (hD.sub [0, 1, 2, 3, 4, 5, 6, 7, 8, 9, 10, 11] (by decide) rfl) hS (lv_sub hl [1, 0] rfl)

end

section
/-! 54.evs -/
/-- what is known of an evening: its men (kinds, figures, weights), its settings, how far it has come -/
def EVS (n sn : Nat) (dn : Int32) (K F W S5 : Nat → Nat) (kf ff wf stf : Nat → Int32) : Prop :=
  EVH n K F W (S5 0) kf ff wf stf ∧ (∀ k, k < 5 → stf k = nI (S5 k)) ∧ (S5 1 ≤ 2 ∧ S5 2 ≤ 1 ∧ S5 3 ≤ 1 ∧ S5 4 ≤ 99) ∧ (sn < n ∨ sn = 0) ∧ (dn = 0 ∨ dn = 1)
/-- whether it is carried -/
def CAR (n : Nat) (W : Nat → Nat) (law : Int32) (i : Nat) (y : Int32) : Prop := nd law (sumr W i (n - i)) ≤ yw W y i (n - i)
/-- the evening behind a vote -/
def DCD (n sn : Nat) (dn : Int32) (W : Nat → Nat) (law y : Int32) (off pf pg : Nat → Int32) (sy2 dn2 : Int32) : Prop :=
  (CAR n W law sn y → sy2 = nI sn ∧ dn2 = 1 ∧ ∀ j, j < 8 → pg j = if sn ≤ j ∧ j < n then off j else pf j) ∧
  (¬ CAR n W law sn y → (∀ j, j < 8 → pg j = if j = sn then -1 else pf j) ∧ (sn + 1 < n → sy2 = nI (sn + 1) ∧ dn2 = dn) ∧ (¬ sn + 1 < n → sy2 = nI sn ∧ dn2 = 1))
def STL (st : Int32) (n : Nat) (pl : PLT) (ro rp rs : Nat → Nat) (g : Nat → Nat → Int32) (yf ef bf : Nat → Int32) : Prop := st = 1 ∨ (st = 0 ∧ ∀ i, i < n → MAT n pl ro rp rs g yf ef bf i)
def fov (bad : Nat → Bool) : Nat → Nat → Int32
  | _, 0 => -9
  | k, m + 1 => if bad k = true then nI (k + 1) else fov bad (k + 1) m
def BAD (sn : Nat) (v : Int32) (T P : Nat → Nat) (k : Nat) : Bool := decide (k = 0 ∨ P (sn + k) ≤ T k) != bt v (sn + k)
theorem fov_s {bad : Nat → Bool} {k m : Nat} (h : k < m) : fov bad k (m - k) = if bad k = true then nI (k + 1) else fov bad (k + 1) (m - (k + 1)) := by
  rw [show m - k = (m - (k + 1)) + 1 by omega]
  rfl
theorem sumr_s0 {f : Nat → Nat} {j : Nat} : sumr f 0 (j + 1) = sumr f 0 j + f j := by
  show _ + f (0 + j) = _
  rw [Nat.zero_add]
/-- who sits where -/
def sg (n : Nat) (orf : Nat → Int32) (q : Nat) : Nat := if orf q < 0 ∨ nI n ≤ orf q then q else (orf q).toNatClampNeg
theorem sg_lt {n : Nat} {orf : Nat → Int32} {q : Nat} (hn : n < 2 ^ 31) (hq : q < n) : sg n orf q < n := by
  unfold sg
  split
  · exact hq
  · rename_i h
    rcases pk_ix (orf q) hn with z | z | ⟨j, hj, e⟩
    · exact absurd (Or.inl z) h
    · exact absurd (Or.inr z) h
    · rw [e, nI_clamp (by omega)]; exact hj
theorem ix_of {x : Int32} {n : Nat} (hn : n < 2 ^ 31) (h0 : ¬ x < 0) (h1 : ¬ nI n ≤ x) : ∃ j, j < n ∧ x = nI j := by
  rcases pk_ix x hn with z | z | z
  · exact absurd z h0
  · exact absurd z h1
  · exact z

end

