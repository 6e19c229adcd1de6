def bm (x : Int32) (d : Nat) : Nat := if x = 0 then 0 else d + 1
theorem bm_0 {x : Int32} {d : Nat} (h : x = 0) : bm x d = 0 := if_pos h
theorem bm_1 {x : Int32} {d : Nat} (h : ¬ x = 0) : bm x d = d + 1 := if_neg h

set_option maxHeartbeats 1000000 in
set_option maxRecDepth 100000 in
/-- X12_beach -/
theorem c_X12_beach (l : Launch) (dC : Nat → ClassId) (dI : Nat → Nat → Nat) (aC : Nat → ClassId) (sz : Nat) (g0 : Nat) (m_refused : Nat) (m_kind : Nat) (m_figure : Nat) (m_weight : Nat) (m_got : Nat) (m_setting : Nat) (m_tape : Nat) (m_letter : Nat) (m_letterAt : Nat) (m_told : Nat) (m_kept : Nat) (m_price : Nat) (m_offer : Nat) (m_gets : Nat) (m_yes : Nat) (m_buys : Nat) (m_ends : Nat) (m_carried : Nat) (m_row : Nat) (m_keptRow : Nat) (m_likeGets : Nat) (m_likePrice : Nat) (m_ahead : Nat) (mat : Int32) (stm : Int32) (him : Int32) (ki : Int32) (crs : Int32) (rm : Int32) (n : Nat) (sn : Nat) (dn : Int32) (lz : Nat) (Lt : Nat → Nat) (tpf : Nat → Int32) (K : Nat → Nat) (F : Nat → Nat) (W0 : Nat → Nat) (S5 : Nat → Nat) (kf : Nat → Int32) (ff : Nat → Int32) (wf : Nat → Int32) (pf : Nat → Int32) (stf : Nat → Int32) (kp : Nat → Int32) (lf : Nat → Int32) (laf : Nat → Int32) (tdf : Nat → Int32) (hlt0 : LTR lz Lt tpf) (hev : EVS n sn dn K F W0 S5 kf ff wf stf) : Met l yX12_beach (wW yX12_beach cX12_beach 3 (some .int)) ({ frames := 3, cells := 0, slots := 0, locals := 69 } : Room) (va_Pc [Value.ref g0] (fun U => U.heap.size = sz ∧ va_P (dC, dI) classes [oX12 g0 m_refused m_kind m_figure m_weight m_got m_setting (nI n) (nI sn) dn m_tape m_letter m_letterAt m_told (nI lz) mat stm m_kept him ki crs m_price m_offer m_gets m_yes m_buys m_ends m_carried m_row rm m_keptRow m_likeGets m_likePrice m_ahead, cI aC m_tape 64 tpf, cI aC m_letter 32 lf, cI aC m_letterAt 32 laf, cI aC m_told 96 tdf, cI aC m_kept 100 kp, cI aC m_kind 9 kf, cI aC m_figure 9 ff, cI aC m_weight 9 wf, cI aC m_got 8 pf, cI aC m_setting 5 stf] U.heap ∧ va_K (dC, dI) classes (TY aC) U ∧ va_D (fun _ => True) [oX12 g0 m_refused m_kind m_figure m_weight m_got m_setting (nI n) (nI sn) dn m_tape m_letter m_letterAt m_told (nI lz) mat stm m_kept him ki crs m_price m_offer m_gets m_yes m_buys m_ends m_carried m_row rm m_keptRow m_likeGets m_likePrice m_ahead, cI aC m_tape 64 tpf, cI aC m_letter 32 lf, cI aC m_letterAt 32 laf, cI aC m_told 96 tdf, cI aC m_kept 100 kp, cI aC m_kind 9 kf, cI aC m_figure 9 ff, cI aC m_weight 9 wf, cI aC m_got 8 pf, cI aC m_setting 5 stf] ∧ NX U)) (va_Qi (fun (r : Int32) (u : Int32 × Int32 × Int32 × Int32 × Int32 × (Nat → Int32) × (Nat → Int32) × (Nat → Int32) × (Nat → Int32) × (Nat → Int32) × (Nat → Int32) × (Nat → Int32) × (Nat → Int32) × (Nat → Int32)) => match u with | (men2, at2, stm2, ki2, cu2, kf2, ff2, wf2, pf2, stf2, kq, lf2, laf2, td2) => r = bcR Lt lz n dn ∧ men2 = nI (bcN Lt lz n dn) ∧ EVS (bcN Lt lz n dn) sn dn (bcM Lt lz n dn 1 K) (bcM Lt lz n dn 2 F) (bcM Lt lz n dn 3 W0) (bcS Lt lz n dn S5) kf2 ff2 wf2 stf2 ∧ (∀ j, j < 8 → pf2 j = pf j) ∧ ∀ q, q < 50 → kq q = kp q) (fun (u : Int32 × Int32 × Int32 × Int32 × Int32 × (Nat → Int32) × (Nat → Int32) × (Nat → Int32) × (Nat → Int32) × (Nat → Int32) × (Nat → Int32) × (Nat → Int32) × (Nat → Int32) × (Nat → Int32)) (t : State) => match u with | (men2, at2, stm2, ki2, cu2, kf2, ff2, wf2, pf2, stf2, kq, lf2, laf2, td2) => va_P (dC, dI) classes [oX12 g0 m_refused m_kind m_figure m_weight m_got m_setting men2 (nI sn) dn m_tape m_letter m_letterAt m_told 0 at2 stm2 m_kept him ki2 cu2 m_price m_offer m_gets m_yes m_buys m_ends m_carried m_row rm m_keptRow m_likeGets m_likePrice m_ahead, cI aC m_tape 64 tpf, cI aC m_letter 32 lf2, cI aC m_letterAt 32 laf2, cI aC m_told 96 td2, cI aC m_kept 100 kq, cI aC m_kind 9 kf2, cI aC m_figure 9 ff2, cI aC m_weight 9 wf2, cI aC m_got 8 pf2, cI aC m_setting 5 stf2] t.heap ∧ va_K (dC, dI) classes (TY aC) t ∧ va_D (va_A [oX12 g0 m_refused m_kind m_figure m_weight m_got m_setting (nI n) (nI sn) dn m_tape m_letter m_letterAt m_told (nI lz) mat stm m_kept him ki crs m_price m_offer m_gets m_yes m_buys m_ends m_carried m_row rm m_keptRow m_likeGets m_likePrice m_ahead, cI aC m_tape 64 tpf, cI aC m_letter 32 lf, cI aC m_letterAt 32 laf, cI aC m_told 96 tdf, cI aC m_kept 100 kp, cI aC m_kind 9 kf, cI aC m_figure 9 ff, cI aC m_weight 9 wf, cI aC m_got 8 pf, cI aC m_setting 5 stf] sz) [oX12 g0 m_refused m_kind m_figure m_weight m_got m_setting men2 (nI sn) dn m_tape m_letter m_letterAt m_told 0 at2 stm2 m_kept him ki2 cu2 m_price m_offer m_gets m_yes m_buys m_ends m_carried m_row rm m_keptRow m_likeGets m_likePrice m_ahead, cI aC m_tape 64 tpf, cI aC m_letter 32 lf2, cI aC m_letterAt 32 laf2, cI aC m_told 96 td2, cI aC m_kept 100 kq, cI aC m_kind 9 kf2, cI aC m_figure 9 ff2, cI aC m_weight 9 wf2, cI aC m_got 8 pf2, cI aC m_setting 5 stf2]) (va_A [oX12 g0 m_refused m_kind m_figure m_weight m_got m_setting (nI n) (nI sn) dn m_tape m_letter m_letterAt m_told (nI lz) mat stm m_kept him ki crs m_price m_offer m_gets m_yes m_buys m_ends m_carried m_row rm m_keptRow m_likeGets m_likePrice m_ahead, cI aC m_tape 64 tpf, cI aC m_letter 32 lf, cI aC m_letterAt 32 laf, cI aC m_told 96 tdf, cI aC m_kept 100 kp, cI aC m_kind 9 kf, cI aC m_figure 9 ff, cI aC m_weight 9 wf, cI aC m_got 8 pf, cI aC m_setting 5 stf] sz)) 0 0 (va_A [oX12 g0 m_refused m_kind m_figure m_weight m_got m_setting (nI n) (nI sn) dn m_tape m_letter m_letterAt m_told (nI lz) mat stm m_kept him ki crs m_price m_offer m_gets m_yes m_buys m_ends m_carried m_row rm m_keptRow m_likeGets m_likePrice m_ahead, cI aC m_tape 64 tpf, cI aC m_letter 32 lf, cI aC m_letterAt 32 laf, cI aC m_told 96 tdf, cI aC m_kept 100 kp, cI aC m_kind 9 kf, cI aC m_figure 9 ff, cI aC m_weight 9 wf, cI aC m_got 8 pf, cI aC m_setting 5 stf] sz) := by
  refine Met.ofW (cc := cX12_beach) (maxL := 3) (ret := (some .int)) (by decide) rfl ?_
  intro p e s m args below meth c s₁ B hml hv
  obtain ⟨rfl, hsz, hP, hK, hD0, hN⟩ := hv
  have hx := B.exec
  have hb := B.bytes
  have hr := B.returns
  have hts0 := atoms_spec (ws := (wW yX12_beach cX12_beach 3 (some .int))) B.pre
  have hts : ∀ w9 ∈ lw_G, w9.before ([Value.ref g0] : List Value).toArray s = true := fun w9 h9 => hts0 w9 (List.mem_cons_of_mem _ h9)
  have hown : s.vm.findClass RX12 = some m.cls := findClass_of_methodNamed (x := yX12_beach) B.named
  have hlocks := B.notSynchronized
  subst hsz
  have hD := hD0.self (sz := s.heap.size)
  generalize hAe : va_A [oX12 g0 m_refused m_kind m_figure m_weight m_got m_setting (nI n) (nI sn) dn m_tape m_letter m_letterAt m_told (nI lz) mat stm m_kept him ki crs m_price m_offer m_gets m_yes m_buys m_ends m_carried m_row rm m_keptRow m_likeGets m_likePrice m_ahead, cI aC m_tape 64 tpf, cI aC m_letter 32 lf, cI aC m_letterAt 32 laf, cI aC m_told 96 tdf, cI aC m_kept 100 kp, cI aC m_kind 9 kf, cI aC m_figure 9 ff, cI aC m_weight 9 wf, cI aC m_got 8 pf, cI aC m_setting 5 stf] s.heap.size = A at hD ⊢
  have hA : ∀ q : Nat, s.heap.size ≤ q → A q := fun q h => by rw [← hAe]; exact Or.inr h
  obtain ⟨H, hHe⟩ : ∃ H : Heap, H = s.heap := ⟨_, rfl⟩
  have hS : va_S A s.heap H [] := by rw [hHe]; exact va_S.rf
  have hP : va_P (dC, dI) classes [oX12 g0 m_refused m_kind m_figure m_weight m_got m_setting (nI n) (nI sn) dn m_tape m_letter m_letterAt m_told (nI lz) mat stm m_kept him ki crs m_price m_offer m_gets m_yes m_buys m_ends m_carried m_row rm m_keptRow m_likeGets m_likePrice m_ahead, cI aC m_tape 64 tpf, cI aC m_letter 32 lf, cI aC m_letterAt 32 laf, cI aC m_told 96 tdf, cI aC m_kept 100 kp, cI aC m_kind 9 kf, cI aC m_figure 9 ff, cI aC m_weight 9 wf, cI aC m_got 8 pf, cI aC m_setting 5 stf] H := by rw [hHe]; exact hP
  have hl := lv_entry ([Value.ref g0]) (n := 3) (Nat.le_of_ble_eq_true rfl)
  rw [lg_entry_eq]
  generalize (lg_sl ([Value.ref g0]) ++ List.replicate (3 - (lg_sl ([Value.ref g0])).length) Slot.unset).toArray = ls at hl ⊢
  have hl : lv_has ls 3 [(0, Value.ref g0)] := hl
  rw [← hHe]
  have hz6 := hlt0.1
  have hn8 := EVS_n hev
  refine lv_aload_n hx hb dX12_beach_0 rfl (lv_at hl 0 rfl) ?_
  refine lv_iconst (v := 0) hx hb dX12_beach_1 (by decide) ?_
  refine va_put (D := (dC, dI)) (ci := 12) (v := Value.int 0) (ty := .int) (C := RX12) (T := TX12) (N := 33) hx hb hts inX12 tyX12 tyX12_ok nmX12 hown hK hP hD hS 0 rfl rfl 14 (by decide) (hts _ (gw kw_731 rfl)) (fun _ h9 => h9) rfl (by decide +kernel) rfl rfl (Nat.le_of_ble_eq_true rfl) dX12_beach_2 (fun H locs hP hD hS => ?_)
  have hpd9 : PDx (dC, dI) classes A H [oX12 g0 m_refused m_kind m_figure m_weight m_got m_setting (nI n) (nI sn) dn m_tape m_letter m_letterAt m_told (nI lz) 0 stm m_kept him ki crs m_price m_offer m_gets m_yes m_buys m_ends m_carried m_row rm m_keptRow m_likeGets m_likePrice m_ahead, cI aC m_tape 64 tpf, cI aC m_letter 32 lf, cI aC m_letterAt 32 laf, cI aC m_told 96 tdf, cI aC m_kept 100 kp, cI aC m_kind 9 kf, cI aC m_figure 9 ff, cI aC m_weight 9 wf, cI aC m_got 8 pf, cI aC m_setting 5 stf] := ⟨hP, hD⟩
  have hP := hpd9.1
  have hD := hpd9.2
  clear hpd9
  refine lv_aload_n hx hb dX12_beach_5 rfl (lv_at hl 0 rfl) ?_
  refine lv_iconst (v := 0) hx hb dX12_beach_6 (by decide) ?_
  refine va_put (D := (dC, dI)) (ci := 12) (v := Value.int 0) (ty := .int) (C := RX12) (T := TX12) (N := 33) hx hb hts inX12 tyX12 tyX12_ok nmX12 hown hK hP hD hS 0 rfl rfl 15 (by decide) (hts _ (gw kw_732 rfl)) (fun _ h9 => h9) rfl (by decide +kernel) rfl rfl (Nat.le_of_ble_eq_true rfl) dX12_beach_7 (fun H locs hP hD hS => ?_)
  have hpd9 : PDx (dC, dI) classes A H [oX12 g0 m_refused m_kind m_figure m_weight m_got m_setting (nI n) (nI sn) dn m_tape m_letter m_letterAt m_told (nI lz) 0 0 m_kept him ki crs m_price m_offer m_gets m_yes m_buys m_ends m_carried m_row rm m_keptRow m_likeGets m_likePrice m_ahead, cI aC m_tape 64 tpf, cI aC m_letter 32 lf, cI aC m_letterAt 32 laf, cI aC m_told 96 tdf, cI aC m_kept 100 kp, cI aC m_kind 9 kf, cI aC m_figure 9 ff, cI aC m_weight 9 wf, cI aC m_got 8 pf, cI aC m_setting 5 stf] := ⟨hP, hD⟩
  have hP := hpd9.1
  have hD := hpd9.2
  clear hpd9
  refine lv_iconst (v := 1) hx hb dX12_beach_10 (by decide) ?_
  refine lv_istore_n (lv' := [(1, Value.int 1), (0, Value.ref g0)]) hx hb dX12_beach_11 rfl hl (by decide) rfl (fun ls hl => ?_)
  have lp_12 : ∀ (fu : Nat) (a : Nat) (k : Nat) (x1 : Int32) (lf9 : Nat → Int32) (laf9 : Nat → Int32) (td9 : Nat → Int32) (hfu : bm x1 (lz - a) < fu) (hin : (x1 = 0 → FLP Lt lz a) ∧ (¬ x1 = 0 → PRS Lt lz a k lf9 laf9 td9)) (H : Heap) (locs : List Loc) (ls : Array Slot), va_P (dC, dI) classes [oX12 g0 m_refused m_kind m_figure m_weight m_got m_setting (nI n) (nI sn) dn m_tape m_letter m_letterAt m_told (nI lz) (nI a) (nI k) m_kept him ki crs m_price m_offer m_gets m_yes m_buys m_ends m_carried m_row rm m_keptRow m_likeGets m_likePrice m_ahead, cI aC m_tape 64 tpf, cI aC m_letter 32 lf9, cI aC m_letterAt 32 laf9, cI aC m_told 96 td9, cI aC m_kept 100 kp, cI aC m_kind 9 kf, cI aC m_figure 9 ff, cI aC m_weight 9 wf, cI aC m_got 8 pf, cI aC m_setting 5 stf] H → va_D A [oX12 g0 m_refused m_kind m_figure m_weight m_got m_setting (nI n) (nI sn) dn m_tape m_letter m_letterAt m_told (nI lz) (nI a) (nI k) m_kept him ki crs m_price m_offer m_gets m_yes m_buys m_ends m_carried m_row rm m_keptRow m_likeGets m_likePrice m_ahead, cI aC m_tape 64 tpf, cI aC m_letter 32 lf9, cI aC m_letterAt 32 laf9, cI aC m_told 96 td9, cI aC m_kept 100 kp, cI aC m_kind 9 kf, cI aC m_figure 9 ff, cI aC m_weight 9 wf, cI aC m_got 8 pf, cI aC m_setting 5 stf] → va_S A s.heap H locs → lv_has ls 3 [(0, Value.ref g0), (1, Value.int x1)] → W p l e (headSpec (wW yX12_beach cX12_beach 3 (some .int)) ({ frames := 3, cells := 0, slots := 0, locals := 69 } : Room)).room s m ([Value.ref g0] : List Value).toArray below meth c H locs 0 0 (MQ below (va_Qi (fun (r : Int32) (u : Int32 × Int32 × Int32 × Int32 × Int32 × (Nat → Int32) × (Nat → Int32) × (Nat → Int32) × (Nat → Int32) × (Nat → Int32) × (Nat → Int32) × (Nat → Int32) × (Nat → Int32) × (Nat → Int32)) => match u with | (men2, at2, stm2, ki2, cu2, kf2, ff2, wf2, pf2, stf2, kq, lf2, laf2, td2) => r = bcR Lt lz n dn ∧ men2 = nI (bcN Lt lz n dn) ∧ EVS (bcN Lt lz n dn) sn dn (bcM Lt lz n dn 1 K) (bcM Lt lz n dn 2 F) (bcM Lt lz n dn 3 W0) (bcS Lt lz n dn S5) kf2 ff2 wf2 stf2 ∧ (∀ j, j < 8 → pf2 j = pf j) ∧ ∀ q, q < 50 → kq q = kp q) (fun (u : Int32 × Int32 × Int32 × Int32 × Int32 × (Nat → Int32) × (Nat → Int32) × (Nat → Int32) × (Nat → Int32) × (Nat → Int32) × (Nat → Int32) × (Nat → Int32) × (Nat → Int32) × (Nat → Int32)) (t : State) => match u with | (men2, at2, stm2, ki2, cu2, kf2, ff2, wf2, pf2, stf2, kq, lf2, laf2, td2) => va_P (dC, dI) classes [oX12 g0 m_refused m_kind m_figure m_weight m_got m_setting men2 (nI sn) dn m_tape m_letter m_letterAt m_told 0 at2 stm2 m_kept him ki2 cu2 m_price m_offer m_gets m_yes m_buys m_ends m_carried m_row rm m_keptRow m_likeGets m_likePrice m_ahead, cI aC m_tape 64 tpf, cI aC m_letter 32 lf2, cI aC m_letterAt 32 laf2, cI aC m_told 96 td2, cI aC m_kept 100 kq, cI aC m_kind 9 kf2, cI aC m_figure 9 ff2, cI aC m_weight 9 wf2, cI aC m_got 8 pf2, cI aC m_setting 5 stf2] t.heap ∧ va_K (dC, dI) classes (TY aC) t ∧ va_D A [oX12 g0 m_refused m_kind m_figure m_weight m_got m_setting men2 (nI sn) dn m_tape m_letter m_letterAt m_told 0 at2 stm2 m_kept him ki2 cu2 m_price m_offer m_gets m_yes m_buys m_ends m_carried m_row rm m_keptRow m_likeGets m_likePrice m_ahead, cI aC m_tape 64 tpf, cI aC m_letter 32 lf2, cI aC m_letterAt 32 laf2, cI aC m_told 96 td2, cI aC m_kept 100 kq, cI aC m_kind 9 kf2, cI aC m_figure 9 ff2, cI aC m_weight 9 wf2, cI aC m_got 8 pf2, cI aC m_setting 5 stf2]) A) ([Value.ref g0] : List Value).toArray s 0 0 A) (F0 m 12 ls []) := by
    intro fu
    induction fu with
    | zero => intro a k x1 lf9 laf9 td9 hfu; exact absurd hfu (Nat.not_lt_zero _)
    | succ fu ih_12 =>
      intro a k x1 lf9 laf9 td9 hfu hin H locs ls hP hD hS hl
      refine lv_iload_n hx hb dX12_beach_12 rfl (lv_at hl 1 rfl) ?_
      refine lv_if_eq (tgt := 60) hx hb dX12_beach_13 (by decide) (fun c_1 => ?_) (fun c_1 => ?_)
      · have hfl := hin.1 c_1
        have hbo : ¬ BOK Lt lz n dn := fun z => hfl.2 z.1
        refine lv_aload_n hx hb dX12_beach_60 rfl (lv_at hl 0 rfl) ?_
        refine lv_iconst (v := 0) hx hb dX12_beach_61 (by decide) ?_
        refine va_put (D := (dC, dI)) (ci := 12) (v := Value.int 0) (ty := .int) (C := RX12) (T := TX12) (N := 33) hx hb hts inX12 tyX12 tyX12_ok nmX12 hown hK hP hD hS 0 rfl rfl 13 (by decide) (hts _ (gw kw_730 rfl)) (fun _ h9 => h9) rfl (by decide +kernel) rfl rfl (Nat.le_of_ble_eq_true rfl) dX12_beach_62 (fun H locs hP hD hS => ?_)
        have hpd9 : PDx (dC, dI) classes A H [oX12 g0 m_refused m_kind m_figure m_weight m_got m_setting (nI n) (nI sn) dn m_tape m_letter m_letterAt m_told 0 (nI a) (nI k) m_kept him ki crs m_price m_offer m_gets m_yes m_buys m_ends m_carried m_row rm m_keptRow m_likeGets m_likePrice m_ahead, cI aC m_tape 64 tpf, cI aC m_letter 32 lf9, cI aC m_letterAt 32 laf9, cI aC m_told 96 td9, cI aC m_kept 100 kp, cI aC m_kind 9 kf, cI aC m_figure 9 ff, cI aC m_weight 9 wf, cI aC m_got 8 pf, cI aC m_setting 5 stf] := ⟨hP, hD⟩
        have hP := hpd9.1
        have hD := hpd9.2
        clear hpd9
        refine lv_iload_n hx hb dX12_beach_65 rfl (lv_at hl 1 rfl) ?_
        refine lv_if_ne (tgt := 78) hx hb dX12_beach_66 (by decide) (fun c_2 => ?_) (fun c_2 => ?_)
        · exact absurd c_1 c_2
        · refine lv_sipush (v := -1000) hx hb dX12_beach_69 (by decide) ?_
          refine lv_aload_n hx hb dX12_beach_72 rfl (lv_at hl 0 rfl) ?_
          refine va_get (D := (dC, dI)) (ci := 12) (v := Value.int (nI a)) (C := RX12) (T := TX12) (N := 33) hx hb hts inX12 hown hK hP 0 rfl rfl 14 (by decide) (hts _ (gw kw_731 rfl)) (fun _ h9 => h9) rfl dX12_beach_73 ?_
          refine lv_isub hx hb dX12_beach_76 ?_
          refine lv_topi (fun x_3 e_3 => ?_)
          have hpd9 := pd_N (cx := [oX12 g0 m_refused m_kind m_figure m_weight m_got m_setting (nI n) (nI sn) dn m_tape m_letter m_letterAt m_told 0 (nI a) (nI k) m_kept him ki crs m_price m_offer m_gets m_yes m_buys m_ends m_carried m_row rm m_keptRow m_likeGets m_likePrice m_ahead, cI aC m_tape 64 tpf, cI aC m_letter 32 lf9, cI aC m_letterAt 32 laf9, cI aC m_told 96 td9, cI aC m_kept 100 kp, cI aC m_kind 9 kf, cI aC m_figure 9 ff, cI aC m_weight 9 wf, cI aC m_got 8 pf, cI aC m_setting 5 stf]) hP hD [0, 1, 2, 3, 4, 5, 6, 7, 8, 9, 10] (by decide) rfl
          have hP9 := hpd9.1
          have hD9 := hpd9.2
          refine W.widen (k := 0) (n := 0) (by omega) (by omega) ?_
          exact W.iret (v := x_3) hx hb hr (fun t ht hW => ⟨⟨x_3, ((nI n), (nI a), (nI k), ki, crs, kf, ff, wf, pf, stf, kp, lf9, laf9, td9), rfl, ⟨by rw [e_3]; unfold bcR; rw [if_neg hbo]; unfold flR; rw [if_neg hfl.2, hfl.1], by unfold bcN; rw [if_neg hbo], by unfold bcN bcM bcS; rw [if_neg hbo, if_neg hbo, if_neg hbo, if_neg hbo, if_neg hbo]; exact hev, fun j _ => rfl, fun q _ => rfl⟩, by rw [ht]; exact hP9, va_K.moved hW.alike hK, hD9⟩, hS.F ht⟩) hS.2.2 dX12_beach_77
      · have hprs := hin.2 c_1
        have hal := hprs.1
        have h3k := hprs.2.2.2.1
        refine lv_aload_n hx hb dX12_beach_16 rfl (lv_at hl 0 rfl) ?_
        refine va_get (D := (dC, dI)) (ci := 12) (v := Value.int (nI a)) (C := RX12) (T := TX12) (N := 33) hx hb hts inX12 hown hK hP 0 rfl rfl 14 (by decide) (hts _ (gw kw_731 rfl)) (fun _ h9 => h9) rfl dX12_beach_17 ?_
        refine lv_aload_n hx hb dX12_beach_20 rfl (lv_at hl 0 rfl) ?_
        refine va_get (D := (dC, dI)) (ci := 12) (v := Value.int (nI lz)) (C := RX12) (T := TX12) (N := 33) hx hb hts inX12 hown hK hP 0 rfl rfl 13 (by decide) (hts _ (gw kw_730 rfl)) (fun _ h9 => h9) rfl dX12_beach_21 ?_
        refine lv_icmp_lt (tgt := 34) hx hb dX12_beach_24 (by decide) (fun c_4 => ?_) (fun c_4 => ?_)
        · have haz : a < lz ∨ a = 0 := Or.inl ((nI_ltI (by omega) (by omega)).mp c_4)
          refine lv_aload_n hx hb dX12_beach_34 rfl (lv_at hl 0 rfl) ?_
          have hpd9 := pdf_N (cx := [oX12 g0 m_refused m_kind m_figure m_weight m_got m_setting (nI n) (nI sn) dn m_tape m_letter m_letterAt m_told (nI lz) (nI a) (nI k) m_kept him ki crs m_price m_offer m_gets m_yes m_buys m_ends m_carried m_row rm m_keptRow m_likeGets m_likePrice m_ahead, cI aC m_tape 64 tpf, cI aC m_letter 32 lf9, cI aC m_letterAt 32 laf9, cI aC m_told 96 td9]) hP hD hS hA [0, 1, 2, 3, 4] (by decide) rfl
          have hPc := hpd9.1
          have hDc := hpd9.2.1
          have hFc := hpd9.2.2
          clear hpd9
          refine va_calli (va_runV (As := []) (rest := []) ⟨hx, hb, hml, hown, hts⟩ (c_X12_statement l dC dI aC H.size g0 m_refused m_kind m_figure m_weight m_got m_setting m_tape m_letter m_letterAt m_told m_kept m_price m_offer m_gets m_yes m_buys m_ends m_carried m_row m_keptRow m_likeGets m_likePrice m_ahead (nI n) (nI sn) dn him ki crs rm lz a k Lt tpf lf9 laf9 td9 (hlt0) (hal) (hprs.2.1) (haz) (h3k)) ⟨(callB_of 0 hts (gG kw_835) rfl rfl rfl (hts _ (gw kw_13 rfl)) (hts _ (gw kw_832 rfl)) hd_X12_statement ⟨Nat.le_of_ble_eq_true rfl, Nat.le_of_ble_eq_true rfl⟩), (hts _ (gw kw_834 rfl)), (hts _ (gw ks_36 rfl))⟩ ⟨fb_std, va_recv (q := (RX12, TX12, 33)) hK hPc (ci := 12) (q0 := 0) rfl rfl, pre_std hPc hK hDc hN⟩ rfl rfl hl.1 rfl (lv_room (Nat.le_of_ble_eq_true rfl)) dX12_beach_35 ⟨Nat.le_of_ble_eq_true rfl, Nat.le_of_ble_eq_true rfl⟩) hS (fun q _ h => hFc q h) hFc (fun x_5 u9 t9 H1 locs ht hvm hw_5 hB hz1 hk1 hS => ?_)
          obtain ⟨u_6, u_7, u_8, u_9⟩ := u9
          obtain ⟨hP1, hK1, hD1⟩ := hB
          rw [ht] at hP1
          clear hK1
          try dsimp only at hw_5
          have hpd9 : PDx (dC, dI) classes A H1 [cI aC m_kept 100 kp, cI aC m_kind 9 kf, cI aC m_figure 9 ff, cI aC m_weight 9 wf, cI aC m_got 8 pf, cI aC m_setting 5 stf, oX12 g0 m_refused m_kind m_figure m_weight m_got m_setting (nI n) (nI sn) dn m_tape m_letter m_letterAt m_told (nI lz) u_6 (nI k) m_kept him ki crs m_price m_offer m_gets m_yes m_buys m_ends m_carried m_row rm m_keptRow m_likeGets m_likePrice m_ahead, cI aC m_tape 64 tpf, cI aC m_letter 32 u_7, cI aC m_letterAt 32 u_8, cI aC m_told 96 u_9] := jn_N (wr := [cI aC m_kept 100 kp, cI aC m_kind 9 kf, cI aC m_figure 9 ff, cI aC m_weight 9 wf, cI aC m_got 8 pf, cI aC m_setting 5 stf]) hFc hk1 hP1 hD1 hP hD [0, 1, 2, 3, 4] [5, 6, 7, 8, 9, 10] rfl rfl (by decide) (by decide)
          have hP := hpd9.1
          have hD := hpd9.2
          clear hpd9
          generalize H1 = H at hP hS ⊢
          clear hPc hDc hFc hz1 hk1 hP1 hD1 ht hvm
          have hz_35 := hw_5
          refine lv_istore_n (lv' := [(1, Value.int x_5), (0, Value.ref g0)]) hx hb dX12_beach_38 rfl hl (by decide) rfl (fun ls hl => ?_)
          refine lv_aload_n hx hb dX12_beach_39 rfl (lv_at hl 1 rfl) ?_
          refine lv_dup hx hb dX12_beach_40 rfl ?_
          refine va_get (D := (dC, dI)) (ci := 12) (v := Value.int (nI k)) (C := RX12) (T := TX12) (N := 33) hx hb hts inX12 hown hK hP 6 rfl rfl 15 (by decide) (hts _ (gw kw_732 rfl)) (fun _ h9 => h9) rfl dX12_beach_41 ?_
          refine lv_iload_n hx hb dX12_beach_44 rfl (lv_at hl 0 rfl) ?_
          refine lv_if_eq (tgt := 52) hx hb dX12_beach_45 (by decide) (fun c_10 => ?_) (fun c_10 => ?_)
          · obtain ⟨q, hfl, hat⟩ := hz_35.1 c_10
            have h9 : u_6 = nI q := hat
            subst h9
            refine lv_iconst (v := 0) hx hb dX12_beach_52 (by decide) ?_
            refine lv_iadd hx hb dX12_beach_53 ?_
            refine lv_topi (fun x_11 e_11 => ?_)
            have h9 : x_11 = nI k := by rw [e_11]; exact Int32.add_zero _
            subst h9
            refine va_put (D := (dC, dI)) (ci := 12) (v := Value.int (nI k)) (ty := .int) (C := RX12) (T := TX12) (N := 33) hx hb hts inX12 tyX12 tyX12_ok nmX12 hown hK hP hD hS 6 rfl rfl 15 (by decide) (hts _ (gw kw_732 rfl)) (fun _ h9 => h9) rfl (by decide +kernel) rfl rfl (Nat.le_of_ble_eq_true rfl) dX12_beach_54 (fun H locs hP hD hS => ?_)
            have hpd9 : PDx (dC, dI) classes A H [cI aC m_kept 100 kp, cI aC m_kind 9 kf, cI aC m_figure 9 ff, cI aC m_weight 9 wf, cI aC m_got 8 pf, cI aC m_setting 5 stf, oX12 g0 m_refused m_kind m_figure m_weight m_got m_setting (nI n) (nI sn) dn m_tape m_letter m_letterAt m_told (nI lz) (nI q) (nI k) m_kept him ki crs m_price m_offer m_gets m_yes m_buys m_ends m_carried m_row rm m_keptRow m_likeGets m_likePrice m_ahead, cI aC m_tape 64 tpf, cI aC m_letter 32 u_7, cI aC m_letterAt 32 u_8, cI aC m_told 96 u_9] := ⟨hP, hD⟩
            have hP := hpd9.1
            have hD := hpd9.2
            clear hpd9
            have m1 := bm_1 (d := lz - a) c_1
            have hin2 : (x_5 = 0 → FLP Lt lz q) ∧ (¬ x_5 = 0 → PRS Lt lz q k u_7 u_8 u_9) := ⟨fun _ => hfl, fun z => absurd c_10 z⟩
            have m2 := bm_0 (d := lz - q) c_10
            have hms : bm x_5 (lz - q) < fu := by omega
            refine lv_goto (tgt := 12) hx hb dX12_beach_57 (by decide) ?_
            exact ih_12 q k x_5 u_7 u_8 u_9 (hms) (hin2) _ _ _ (hP.sub [6, 7, 8, 9, 10, 0, 1, 2, 3, 4, 5] rfl) (hD.sub [6, 7, 8, 9, 10, 0, 1, 2, 3, 4, 5] (by decide) rfl) hS (lv_sub hl [1, 0] rfl)
          · obtain ⟨q, hst, hql, hq5, hat, hlf, hla, htl, hfr⟩ := hz_35.2 c_10
            have h9 : u_6 = nI (q + 1) := hat
            subst h9
            refine lv_iconst (v := 1) hx hb dX12_beach_48 (by decide) ?_
            refine lv_goto (tgt := 53) hx hb dX12_beach_49 (by decide) ?_
            refine lv_iadd hx hb dX12_beach_53 ?_
            refine lv_topi (fun x_12 e_12 => ?_)
            have h9 : x_12 = nI (k + 1) := by rw [e_12, nI_1]
            subst h9
            refine va_put (D := (dC, dI)) (ci := 12) (v := Value.int (nI (k + 1))) (ty := .int) (C := RX12) (T := TX12) (N := 33) hx hb hts inX12 tyX12 tyX12_ok nmX12 hown hK hP hD hS 6 rfl rfl 15 (by decide) (hts _ (gw kw_732 rfl)) (fun _ h9 => h9) rfl (by decide +kernel) rfl rfl (Nat.le_of_ble_eq_true rfl) dX12_beach_54 (fun H locs hP hD hS => ?_)
            have hpd9 : PDx (dC, dI) classes A H [cI aC m_kept 100 kp, cI aC m_kind 9 kf, cI aC m_figure 9 ff, cI aC m_weight 9 wf, cI aC m_got 8 pf, cI aC m_setting 5 stf, oX12 g0 m_refused m_kind m_figure m_weight m_got m_setting (nI n) (nI sn) dn m_tape m_letter m_letterAt m_told (nI lz) (nI (q + 1)) (nI (k + 1)) m_kept him ki crs m_price m_offer m_gets m_yes m_buys m_ends m_carried m_row rm m_keptRow m_likeGets m_likePrice m_ahead, cI aC m_tape 64 tpf, cI aC m_letter 32 u_7, cI aC m_letterAt 32 u_8, cI aC m_told 96 u_9] := ⟨hP, hD⟩
            have hP := hpd9.1
            have hD := hpd9.2
            clear hpd9
            have m1 := bm_1 (d := lz - a) c_1
            have hin2 : (x_5 = 0 → FLP Lt lz (q + 1)) ∧ (¬ x_5 = 0 → PRS Lt lz (q + 1) (k + 1) u_7 u_8 u_9) := ⟨fun z => absurd z c_10, fun _ => PRS_s hprs hst hql hq5 hlf hla htl hfr⟩
            have m2 := bm_1 (d := lz - (q + 1)) c_10
            have m3 := (STM_k hst).2
            have hms : bm x_5 (lz - (q + 1)) < fu := by omega
            refine lv_goto (tgt := 12) hx hb dX12_beach_57 (by decide) ?_
            exact ih_12 (q + 1) (k + 1) x_5 u_7 u_8 u_9 (hms) (hin2) _ _ _ (hP.sub [6, 7, 8, 9, 10, 0, 1, 2, 3, 4, 5] rfl) (hD.sub [6, 7, 8, 9, 10, 0, 1, 2, 3, 4, 5] (by decide) rfl) hS (lv_sub hl [1, 0] rfl)
        · refine lv_aload_n hx hb dX12_beach_27 rfl (lv_at hl 0 rfl) ?_
          refine va_get (D := (dC, dI)) (ci := 12) (v := Value.int (nI k)) (C := RX12) (T := TX12) (N := 33) hx hb hts inX12 hown hK hP 0 rfl rfl 15 (by decide) (hts _ (gw kw_732 rfl)) (fun _ h9 => h9) rfl dX12_beach_28 ?_
          refine lv_if_ne (tgt := 60) hx hb dX12_beach_31 (by decide) (fun c_13 => ?_) (fun c_13 => ?_)
          · have hae : a = lz := by
              rcases Nat.lt_or_ge a lz with q | q
              · exact absurd (nI_lt q (by omega)) c_4
              · omega
            have h0z : lrn Lt lz = 0 := hae ▸ hprs.2.1
            have hkz : k = scn Lt lz := hprs.2.2.1.trans (by rw [hae])
            have hk0 : k ≠ 0 := fun z => c_13 (by rw [z]; rfl)
            have hlz0 : 0 < lz := by omega
            have hpr : ∀ e, e < lz → Lt e = 59 → scn Lt e < k ∧ lf9 (scn Lt e) = nI (Lt (lst Lt e)) ∧ laf9 (scn Lt e) = nI (lst Lt e) ∧ TLD Lt (lst Lt e) e (scn Lt e) td9 := fun e q1 q2 => hprs.2.2.2.2.2 e (by omega) q2
            subst hkz
            refine lv_aload_n hx hb dX12_beach_60 rfl (lv_at hl 0 rfl) ?_
            refine lv_iconst (v := 0) hx hb dX12_beach_61 (by decide) ?_
            refine va_put (D := (dC, dI)) (ci := 12) (v := Value.int 0) (ty := .int) (C := RX12) (T := TX12) (N := 33) hx hb hts inX12 tyX12 tyX12_ok nmX12 hown hK hP hD hS 0 rfl rfl 13 (by decide) (hts _ (gw kw_730 rfl)) (fun _ h9 => h9) rfl (by decide +kernel) rfl rfl (Nat.le_of_ble_eq_true rfl) dX12_beach_62 (fun H locs hP hD hS => ?_)
            have hpd9 : PDx (dC, dI) classes A H [oX12 g0 m_refused m_kind m_figure m_weight m_got m_setting (nI n) (nI sn) dn m_tape m_letter m_letterAt m_told 0 (nI a) (nI (scn Lt lz)) m_kept him ki crs m_price m_offer m_gets m_yes m_buys m_ends m_carried m_row rm m_keptRow m_likeGets m_likePrice m_ahead, cI aC m_tape 64 tpf, cI aC m_letter 32 lf9, cI aC m_letterAt 32 laf9, cI aC m_told 96 td9, cI aC m_kept 100 kp, cI aC m_kind 9 kf, cI aC m_figure 9 ff, cI aC m_weight 9 wf, cI aC m_got 8 pf, cI aC m_setting 5 stf] := ⟨hP, hD⟩
            have hP := hpd9.1
            have hD := hpd9.2
            clear hpd9
            refine lv_iload_n hx hb dX12_beach_65 rfl (lv_at hl 1 rfl) ?_
            refine lv_if_ne (tgt := 78) hx hb dX12_beach_66 (by decide) (fun c_14 => ?_) (fun c_14 => ?_)
            · refine lv_aload_n hx hb dX12_beach_78 rfl (lv_at hl 0 rfl) ?_
              refine lv_iconst (v := 1) hx hb dX12_beach_79 (by decide) ?_
              refine lv_iconst (v := 1) hx hb dX12_beach_80 (by decide) ?_
              have hpd9 := pdf_N (cx := [oX12 g0 m_refused m_kind m_figure m_weight m_got m_setting (nI n) (nI sn) dn m_tape m_letter m_letterAt m_told 0 (nI a) (nI (scn Lt lz)) m_kept him ki crs m_price m_offer m_gets m_yes m_buys m_ends m_carried m_row rm m_keptRow m_likeGets m_likePrice m_ahead, cI aC m_kept 100 kp, cI aC m_kind 9 kf, cI aC m_figure 9 ff, cI aC m_weight 9 wf, cI aC m_got 8 pf, cI aC m_setting 5 stf]) hP hD hS hA [0, 5, 6, 7, 8, 9, 10] (by decide) rfl
              have hPc := hpd9.1
              have hDc := hpd9.2.1
              have hFc := hpd9.2.2
              clear hpd9
              refine va_callv (va_runV (As := [Value.int 1, Value.int 1]) (rest := []) ⟨hx, hb, hml, hown, hts⟩ (c_X12_passesAll_k l dC dI aC H.size g0 m_refused m_kind m_figure m_weight m_got m_setting m_tape m_letter m_letterAt m_told m_kept m_price m_offer m_gets m_yes m_buys m_ends m_carried m_row m_keptRow m_likeGets m_likePrice m_ahead (nI n) (nI sn) dn 0 (nI a) (nI (scn Lt lz)) him ki crs rm kp 1 kf ff wf pf stf (by omega)) ⟨(callB_of 2 hts (gG kw_850) rfl rfl rfl (hts _ (gw kw_13 rfl)) (hts _ (gw kw_847 rfl)) hd_X12_passesAll ⟨Nat.le_of_ble_eq_true rfl, Nat.le_of_ble_eq_true rfl⟩), (hts _ (gw kw_849 rfl)), (hts _ (gw ks_39 rfl))⟩ ⟨fb_std, va_recv (q := (RX12, TX12, 33)) hK hPc (ci := 12) (q0 := 0) rfl rfl, pre_std hPc hK hDc hN⟩ rfl rfl hl.1 rfl (lv_room (Nat.le_of_ble_eq_true rfl)) dX12_beach_81 ⟨Nat.le_of_ble_eq_true rfl, Nat.le_of_ble_eq_true rfl⟩) hS (fun q _ h => hFc q h) hFc (fun u9 t9 H1 locs ht hvm hw_15 hB hz1 hk1 hS => ?_)
              obtain ⟨u_16, u_17⟩ := u9
              obtain ⟨hP1, hK1, hD1⟩ := hB
              rw [ht] at hP1
              clear hK1
              try dsimp only at hw_15
              have hpd9 : PDx (dC, dI) classes A H1 [cI aC m_tape 64 tpf, cI aC m_letter 32 lf9, cI aC m_letterAt 32 laf9, cI aC m_told 96 td9, oX12 g0 m_refused m_kind m_figure m_weight m_got m_setting (nI n) (nI sn) dn m_tape m_letter m_letterAt m_told 0 (nI a) (nI (scn Lt lz)) m_kept him 1 u_16 m_price m_offer m_gets m_yes m_buys m_ends m_carried m_row rm m_keptRow m_likeGets m_likePrice m_ahead, cI aC m_kept 100 u_17, cI aC m_kind 9 kf, cI aC m_figure 9 ff, cI aC m_weight 9 wf, cI aC m_got 8 pf, cI aC m_setting 5 stf] := jn_N (wr := [cI aC m_tape 64 tpf, cI aC m_letter 32 lf9, cI aC m_letterAt 32 laf9, cI aC m_told 96 td9]) hFc hk1 hP1 hD1 hP hD [0, 5, 6, 7, 8, 9, 10] [1, 2, 3, 4] rfl rfl (by decide) (by decide)
              have hP := hpd9.1
              have hD := hpd9.2
              clear hpd9
              generalize H1 = H at hP hS ⊢
              clear hPc hDc hFc hz1 hk1 hP1 hD1 ht hvm
              obtain ⟨hpk, hpq⟩ := hw_15
              refine lv_iconst (v := 0) hx hb dX12_beach_84 (by decide) ?_
              refine lv_istore_n (lv' := [(2, Value.int 0), (0, Value.ref g0), (1, Value.int x1)]) hx hb dX12_beach_85 rfl hl (by decide) rfl (fun ls hl => ?_)
              have lp_86 : ∀ (fu : Nat) (p9 : Nat) (kc : Nat → Int32) (fc : Nat → Int32) (wc : Nat → Int32) (sc9 : Nat → Int32) (hfu : lz - p9 < fu) (hp : p9 ≤ lz) (hr0 : lrn Lt p9 = 0) (hf : fwr Lt n dn 0 lz = fwr Lt n dn p9 (lz - p9)) (hev9 : EVT Lt p9 n sn dn K F W0 S5 kc fc wc sc9) (H : Heap) (locs : List Loc) (ls : Array Slot), va_P (dC, dI) classes [cI aC m_tape 64 tpf, cI aC m_letter 32 lf9, cI aC m_letterAt 32 laf9, cI aC m_told 96 td9, oX12 g0 m_refused m_kind m_figure m_weight m_got m_setting (nI (n + cm Lt p9)) (nI sn) dn m_tape m_letter m_letterAt m_told 0 (nI a) (nI (scn Lt lz)) m_kept him 1 u_16 m_price m_offer m_gets m_yes m_buys m_ends m_carried m_row rm m_keptRow m_likeGets m_likePrice m_ahead, cI aC m_kept 100 u_17, cI aC m_kind 9 kc, cI aC m_figure 9 fc, cI aC m_weight 9 wc, cI aC m_got 8 pf, cI aC m_setting 5 sc9] H → va_D A [cI aC m_tape 64 tpf, cI aC m_letter 32 lf9, cI aC m_letterAt 32 laf9, cI aC m_told 96 td9, oX12 g0 m_refused m_kind m_figure m_weight m_got m_setting (nI (n + cm Lt p9)) (nI sn) dn m_tape m_letter m_letterAt m_told 0 (nI a) (nI (scn Lt lz)) m_kept him 1 u_16 m_price m_offer m_gets m_yes m_buys m_ends m_carried m_row rm m_keptRow m_likeGets m_likePrice m_ahead, cI aC m_kept 100 u_17, cI aC m_kind 9 kc, cI aC m_figure 9 fc, cI aC m_weight 9 wc, cI aC m_got 8 pf, cI aC m_setting 5 sc9] → va_S A s.heap H locs → lv_has ls 3 [(0, Value.ref g0), (1, Value.int x1), (2, Value.int (nI (scn Lt p9)))] → W p l e (headSpec (wW yX12_beach cX12_beach 3 (some .int)) ({ frames := 3, cells := 0, slots := 0, locals := 69 } : Room)).room s m ([Value.ref g0] : List Value).toArray below meth c H locs 0 0 (MQ below (va_Qi (fun (r : Int32) (u : Int32 × Int32 × Int32 × Int32 × Int32 × (Nat → Int32) × (Nat → Int32) × (Nat → Int32) × (Nat → Int32) × (Nat → Int32) × (Nat → Int32) × (Nat → Int32) × (Nat → Int32) × (Nat → Int32)) => match u with | (men2, at2, stm2, ki2, cu2, kf2, ff2, wf2, pf2, stf2, kq, lf2, laf2, td2) => r = bcR Lt lz n dn ∧ men2 = nI (bcN Lt lz n dn) ∧ EVS (bcN Lt lz n dn) sn dn (bcM Lt lz n dn 1 K) (bcM Lt lz n dn 2 F) (bcM Lt lz n dn 3 W0) (bcS Lt lz n dn S5) kf2 ff2 wf2 stf2 ∧ (∀ j, j < 8 → pf2 j = pf j) ∧ ∀ q, q < 50 → kq q = kp q) (fun (u : Int32 × Int32 × Int32 × Int32 × Int32 × (Nat → Int32) × (Nat → Int32) × (Nat → Int32) × (Nat → Int32) × (Nat → Int32) × (Nat → Int32) × (Nat → Int32) × (Nat → Int32) × (Nat → Int32)) (t : State) => match u with | (men2, at2, stm2, ki2, cu2, kf2, ff2, wf2, pf2, stf2, kq, lf2, laf2, td2) => va_P (dC, dI) classes [oX12 g0 m_refused m_kind m_figure m_weight m_got m_setting men2 (nI sn) dn m_tape m_letter m_letterAt m_told 0 at2 stm2 m_kept him ki2 cu2 m_price m_offer m_gets m_yes m_buys m_ends m_carried m_row rm m_keptRow m_likeGets m_likePrice m_ahead, cI aC m_tape 64 tpf, cI aC m_letter 32 lf2, cI aC m_letterAt 32 laf2, cI aC m_told 96 td2, cI aC m_kept 100 kq, cI aC m_kind 9 kf2, cI aC m_figure 9 ff2, cI aC m_weight 9 wf2, cI aC m_got 8 pf2, cI aC m_setting 5 stf2] t.heap ∧ va_K (dC, dI) classes (TY aC) t ∧ va_D A [oX12 g0 m_refused m_kind m_figure m_weight m_got m_setting men2 (nI sn) dn m_tape m_letter m_letterAt m_told 0 at2 stm2 m_kept him ki2 cu2 m_price m_offer m_gets m_yes m_buys m_ends m_carried m_row rm m_keptRow m_likeGets m_likePrice m_ahead, cI aC m_tape 64 tpf, cI aC m_letter 32 lf2, cI aC m_letterAt 32 laf2, cI aC m_told 96 td2, cI aC m_kept 100 kq, cI aC m_kind 9 kf2, cI aC m_figure 9 ff2, cI aC m_weight 9 wf2, cI aC m_got 8 pf2, cI aC m_setting 5 stf2]) A) ([Value.ref g0] : List Value).toArray s 0 0 A) (F0 m 86 ls []) := by
                intro fu
                induction fu with
                | zero => intro p9 kc fc wc sc9 hfu; exact absurd hfu (Nat.not_lt_zero _)
                | succ fu ih_86 =>
                  intro p9 kc fc wc sc9 hfu hp hr0 hf hev9 H locs ls hP hD hS hl
                  refine lv_iload_n hx hb dX12_beach_86 rfl (lv_at hl 2 rfl) ?_
                  refine lv_aload_n hx hb dX12_beach_87 rfl (lv_at hl 0 rfl) ?_
                  refine va_get (D := (dC, dI)) (ci := 12) (v := Value.int (nI (scn Lt lz))) (C := RX12) (T := TX12) (N := 33) hx hb hts inX12 hown hK hP 4 rfl rfl 15 (by decide) (hts _ (gw kw_732 rfl)) (fun _ h9 => h9) rfl dX12_beach_88 ?_
                  refine lv_icmp_ge (tgt := 128) hx hb dX12_beach_91 (by decide) (fun c_18 => ?_) (fun c_18 => ?_)
                  · have hpz : p9 = lz := by
                      rcases Nat.lt_or_ge p9 lz with q | q
                      · exfalso
                        obtain ⟨e9, he1, he2, he3, he4⟩ := nxe h0z hr0 q
                        have m1 := scn_mono (L := Lt) (p := p9) (e9 - p9)
                        rw [show p9 + (e9 - p9) = e9 by omega] at m1
                        have m2 := scn_mono (L := Lt) (p := e9 + 1) (lz - (e9 + 1))
                        rw [show e9 + 1 + (lz - (e9 + 1)) = lz by omega, scn_y he3] at m2
                        have m3 := (nI_leI (a := scn Lt lz) (b := scn Lt p9) (by omega) (by omega)).mp c_18
                        omega
                      · omega
                    have hbo : BOK Lt lz n dn := ⟨⟨h0z, hlz0⟩, by rw [hf, hpz, Nat.sub_self]; rfl⟩
                    refine lv_aload_n hx hb dX12_beach_128 rfl (lv_at hl 0 rfl) ?_
                    refine va_get (D := (dC, dI)) (ci := 12) (v := Value.int (nI (scn Lt lz))) (C := RX12) (T := TX12) (N := 33) hx hb hts inX12 hown hK hP 4 rfl rfl 15 (by decide) (hts _ (gw kw_732 rfl)) (fun _ h9 => h9) rfl dX12_beach_129 ?_
                    have hpd9 := pd_N (cx := [oX12 g0 m_refused m_kind m_figure m_weight m_got m_setting (nI (n + cm Lt p9)) (nI sn) dn m_tape m_letter m_letterAt m_told 0 (nI a) (nI (scn Lt lz)) m_kept him 1 u_16 m_price m_offer m_gets m_yes m_buys m_ends m_carried m_row rm m_keptRow m_likeGets m_likePrice m_ahead, cI aC m_tape 64 tpf, cI aC m_letter 32 lf9, cI aC m_letterAt 32 laf9, cI aC m_told 96 td9, cI aC m_kept 100 u_17, cI aC m_kind 9 kc, cI aC m_figure 9 fc, cI aC m_weight 9 wc, cI aC m_got 8 pf, cI aC m_setting 5 sc9]) hP hD [4, 0, 1, 2, 3, 5, 6, 7, 8, 9, 10] (by decide) rfl
                    have hP9 := hpd9.1
                    have hD9 := hpd9.2
                    refine W.widen (k := 0) (n := 0) (by omega) (by omega) ?_
                    exact W.iret (v := nI (scn Lt lz)) hx hb hr (fun t ht hW => ⟨⟨(nI (scn Lt lz)), ((nI (n + cm Lt p9)), (nI a), (nI (scn Lt lz)), 1, u_16, kc, fc, wc, pf, sc9, u_17, lf9, laf9, td9), rfl, ⟨by unfold bcR; rw [if_pos hbo], by unfold bcN; rw [if_pos hbo, hpz], by unfold bcN bcM bcS; rw [if_pos hbo, if_pos hbo, if_pos hbo, if_pos hbo, if_pos hbo, ← hpz]; exact hev9, fun j _ => rfl, fun q hq => hpq q (Or.inl (by omega))⟩, by rw [ht]; exact hP9, va_K.moved hW.alike hK, hD9⟩, hS.F ht⟩) hS.2.2 dX12_beach_132
                  · have hpl : p9 < lz := by
                      rcases Nat.lt_or_ge p9 lz with q | q
                      · exact q
                      · have e : p9 = lz := by omega
                        rw [e] at c_18
                        exact absurd (Int32.le_refl _) c_18
                    obtain ⟨e9, he1, he2, he3, he4⟩ := nxe h0z hr0 hpl
                    have hpe : p9 + (e9 - p9) = e9 := by omega
                    obtain ⟨hn1, hn2, hn3, hn4⟩ := nose (L := Lt) (n := n) (dn := dn) (lz := lz) (p := p9) (e9 - p9) (fun j q1 q2 => he4 j q1 (by omega))
                    have hevE := nosE hev9 (e9 - p9) (fun j q1 q2 => he4 j q1 (by omega))
                    rw [hpe] at hn1 hn2 hn3 hn4 hevE
                    have hst := STM_r (z := lz) (by rw [h0z]; decide) he2 he3
                    obtain ⟨hs1, hs2, hs3, hs4⟩ := hpr e9 he2 he3
                    have hfe : fwr Lt n dn 0 lz = fwr Lt n dn e9 (lz - e9) := hf.trans (hn4 (by omega))
                    have hle9 := lst_le Lt e9
                    have hl : lv_has ls 3 [(0, Value.ref g0), (1, Value.int x1), (2, Value.int (nI (scn Lt e9)))] := by rw [← (show nI (scn Lt p9) = nI (scn Lt e9) by rw [hn1])]; exact hl
                    have hsz : nI (n + cm Lt p9) = nI (n + cm Lt e9) := by rw [hn3]
                    have hP : va_P (dC, dI) classes [cI aC m_tape 64 tpf, cI aC m_letter 32 lf9, cI aC m_letterAt 32 laf9, cI aC m_told 96 td9, oX12 g0 m_refused m_kind m_figure m_weight m_got m_setting (nI (n + cm Lt e9)) (nI sn) dn m_tape m_letter m_letterAt m_told 0 (nI a) (nI (scn Lt lz)) m_kept him 1 u_16 m_price m_offer m_gets m_yes m_buys m_ends m_carried m_row rm m_keptRow m_likeGets m_likePrice m_ahead, cI aC m_kept 100 u_17, cI aC m_kind 9 kc, cI aC m_figure 9 fc, cI aC m_weight 9 wc, cI aC m_got 8 pf, cI aC m_setting 5 sc9] H := by rw [← hsz]; exact hP
                    have hD : va_D A [cI aC m_tape 64 tpf, cI aC m_letter 32 lf9, cI aC m_letterAt 32 laf9, cI aC m_told 96 td9, oX12 g0 m_refused m_kind m_figure m_weight m_got m_setting (nI (n + cm Lt e9)) (nI sn) dn m_tape m_letter m_letterAt m_told 0 (nI a) (nI (scn Lt lz)) m_kept him 1 u_16 m_price m_offer m_gets m_yes m_buys m_ends m_carried m_row rm m_keptRow m_likeGets m_likePrice m_ahead, cI aC m_kept 100 u_17, cI aC m_kind 9 kc, cI aC m_figure 9 fc, cI aC m_weight 9 wc, cI aC m_got 8 pf, cI aC m_setting 5 sc9] := by rw [← hsz]; exact hD
                    refine lv_aload_n hx hb dX12_beach_94 rfl (lv_at hl 0 rfl) ?_
                    refine lv_iload_n hx hb dX12_beach_95 rfl (lv_at hl 2 rfl) ?_
                    have hpd9 := pdf_N (cx := [oX12 g0 m_refused m_kind m_figure m_weight m_got m_setting (nI (n + cm Lt e9)) (nI sn) dn m_tape m_letter m_letterAt m_told 0 (nI a) (nI (scn Lt lz)) m_kept him 1 u_16 m_price m_offer m_gets m_yes m_buys m_ends m_carried m_row rm m_keptRow m_likeGets m_likePrice m_ahead, cI aC m_kind 9 kc, cI aC m_figure 9 fc, cI aC m_weight 9 wc, cI aC m_setting 5 sc9, cI aC m_letter 32 lf9, cI aC m_told 96 td9]) hP hD hS hA [4, 6, 7, 8, 10, 1, 3] (by decide) rfl
                    have hPc := hpd9.1
                    have hDc := hpd9.2.1
                    have hFc := hpd9.2.2
                    clear hpd9
                    refine va_calli (va_runV (As := [Value.int (nI (scn Lt e9))]) (rest := []) ⟨hx, hb, hml, hown, hts⟩ (c_X12_comes l dC dI aC H.size g0 m_refused m_kind m_figure m_weight m_got m_setting m_tape m_letter m_letterAt m_told m_kept m_price m_offer m_gets m_yes m_buys m_ends m_carried m_row m_keptRow m_likeGets m_likePrice m_ahead 0 (nI a) (nI (scn Lt lz)) him 1 u_16 rm n sn dn K F W0 S5 kc fc wc sc9 lz Lt e9 lf9 td9 (hst) (he3) ((hlt0.2 _ (by omega)).2) (hs2) (hs4) (by omega) (hevE)) ⟨(callB_of 1 hts (gG kw_862) rfl rfl rfl (hts _ (gw kw_13 rfl)) (hts _ (gw kw_859 rfl)) hd_X12_comes ⟨Nat.le_of_ble_eq_true rfl, Nat.le_of_ble_eq_true rfl⟩), (hts _ (gw kw_861 rfl)), (hts _ (gw ks_42 rfl))⟩ ⟨fb_std, va_recv (q := (RX12, TX12, 33)) hK hPc (ci := 12) (q0 := 0) rfl rfl, pre_std hPc hK hDc hN⟩ rfl rfl hl.1 rfl (lv_room (Nat.le_of_ble_eq_true rfl)) dX12_beach_96 ⟨Nat.le_of_ble_eq_true rfl, Nat.le_of_ble_eq_true rfl⟩) hS (fun q _ h => hFc q h) hFc (fun x_19 u9 t9 H1 locs ht hvm hw_19 hB hz1 hk1 hS => ?_)
                    obtain ⟨u_20, u_21, u_22, u_23, u_24⟩ := u9
                    obtain ⟨hP1, hK1, hD1⟩ := hB
                    rw [ht] at hP1
                    clear hK1
                    try dsimp only at hw_19
                    have hpd9 : PDx (dC, dI) classes A H1 [cI aC m_tape 64 tpf, cI aC m_letterAt 32 laf9, cI aC m_kept 100 u_17, cI aC m_got 8 pf, oX12 g0 m_refused m_kind m_figure m_weight m_got m_setting u_20 (nI sn) dn m_tape m_letter m_letterAt m_told 0 (nI a) (nI (scn Lt lz)) m_kept him 1 u_16 m_price m_offer m_gets m_yes m_buys m_ends m_carried m_row rm m_keptRow m_likeGets m_likePrice m_ahead, cI aC m_kind 9 u_21, cI aC m_figure 9 u_22, cI aC m_weight 9 u_23, cI aC m_setting 5 u_24, cI aC m_letter 32 lf9, cI aC m_told 96 td9] := jn_N (wr := [cI aC m_tape 64 tpf, cI aC m_letterAt 32 laf9, cI aC m_kept 100 u_17, cI aC m_got 8 pf]) hFc hk1 hP1 hD1 hP hD [4, 6, 7, 8, 10, 1, 3] [0, 2, 5, 9] rfl rfl (by decide) (by decide)
                    have hP := hpd9.1
                    have hD := hpd9.2
                    clear hpd9
                    generalize H1 = H at hP hS ⊢
                    clear hPc hDc hFc hz1 hk1 hP1 hD1 ht hvm
                    have hz_96 := hw_19
                    refine lv_if_eq (tgt := 105) hx hb dX12_beach_99 (by decide) (fun c_25 => ?_) (fun c_25 => ?_)
                    · refine lv_aload_n hx hb dX12_beach_105 rfl (lv_at hl 0 rfl) ?_
                      refine lv_iconst (v := 1) hx hb dX12_beach_106 (by decide) ?_
                      refine lv_iconst (v := 0) hx hb dX12_beach_107 (by decide) ?_
                      have hpd9 := pdf_N (cx := [oX12 g0 m_refused m_kind m_figure m_weight m_got m_setting u_20 (nI sn) dn m_tape m_letter m_letterAt m_told 0 (nI a) (nI (scn Lt lz)) m_kept him 1 u_16 m_price m_offer m_gets m_yes m_buys m_ends m_carried m_row rm m_keptRow m_likeGets m_likePrice m_ahead, cI aC m_kept 100 u_17, cI aC m_kind 9 u_21, cI aC m_figure 9 u_22, cI aC m_weight 9 u_23, cI aC m_got 8 pf, cI aC m_setting 5 u_24]) hP hD hS hA [4, 2, 5, 6, 7, 3, 8] (by decide) rfl
                      have hPc := hpd9.1
                      have hDc := hpd9.2.1
                      have hFc := hpd9.2.2
                      clear hpd9
                      refine va_callv (va_runV (As := [Value.int 1, Value.int 0]) (rest := []) ⟨hx, hb, hml, hown, hts⟩ (c_X12_passesAll_l l dC dI aC H.size g0 m_refused m_kind m_figure m_weight m_got m_setting m_tape m_letter m_letterAt m_told m_kept m_price m_offer m_gets m_yes m_buys m_ends m_carried m_row m_keptRow m_likeGets m_likePrice m_ahead u_20 (nI sn) dn 0 (nI a) (nI (scn Lt lz)) him 1 u_16 rm u_17 1 u_21 u_22 u_23 pf u_24 (by omega)) ⟨(callB_of 2 hts (gG kw_850) rfl rfl rfl (hts _ (gw kw_13 rfl)) (hts _ (gw kw_847 rfl)) hd_X12_passesAll ⟨Nat.le_of_ble_eq_true rfl, Nat.le_of_ble_eq_true rfl⟩), (hts _ (gw kw_849 rfl)), (hts _ (gw ks_39 rfl))⟩ ⟨fb_std, va_recv (q := (RX12, TX12, 33)) hK hPc (ci := 12) (q0 := 0) rfl rfl, pre_std hPc hK hDc hN⟩ rfl rfl hl.1 rfl (lv_room (Nat.le_of_ble_eq_true rfl)) dX12_beach_108 ⟨Nat.le_of_ble_eq_true rfl, Nat.le_of_ble_eq_true rfl⟩) hS (fun q _ h => hFc q h) hFc (fun u9 t9 H1 locs ht hvm hw_26 hB hz1 hk1 hS => ?_)
                      obtain ⟨u_27, u_28, u_29, u_30, u_31, u_32, u_33, u_34, u_35⟩ := u9
                      obtain ⟨hP1, hK1, hD1⟩ := hB
                      rw [ht] at hP1
                      clear hK1
                      try dsimp only at hw_26
                      have hpd9 : PDx (dC, dI) classes A H1 [cI aC m_tape 64 tpf, cI aC m_letterAt 32 laf9, cI aC m_letter 32 lf9, cI aC m_told 96 td9, oX12 g0 m_refused m_kind m_figure m_weight m_got m_setting u_28 u_29 u_30 m_tape m_letter m_letterAt m_told 0 (nI a) (nI (scn Lt lz)) m_kept him 0 u_27 m_price m_offer m_gets m_yes m_buys m_ends m_carried m_row rm m_keptRow m_likeGets m_likePrice m_ahead, cI aC m_kept 100 u_17, cI aC m_kind 9 u_31, cI aC m_figure 9 u_32, cI aC m_weight 9 u_33, cI aC m_got 8 u_34, cI aC m_setting 5 u_35] := jn_N (wr := [cI aC m_tape 64 tpf, cI aC m_letterAt 32 laf9, cI aC m_letter 32 lf9, cI aC m_told 96 td9]) hFc hk1 hP1 hD1 hP hD [4, 2, 5, 6, 7, 3, 8] [0, 1, 9, 10] rfl rfl (by decide) (by decide)
                      have hP := hpd9.1
                      have hD := hpd9.2
                      clear hpd9
                      generalize H1 = H at hP hS ⊢
                      clear hPc hDc hFc hz1 hk1 hP1 hD1 ht hvm
                      obtain ⟨hre, hr1, hr2, hr3⟩ := PK_eq hpk hw_26
                      have h9 : u_28 = nI n := hr1
                      subst h9
                      have h9 : u_29 = nI sn := hr2
                      subst h9
                      have h9 : dn = u_30 := Eq.symm (show u_30 = dn from hr3)
                      subst h9
                      have hfv : fwr Lt n dn 0 lz = nI (lst Lt e9) := by rw [hfe, fwr_s he2, if_pos ⟨he3, hz_96.1 c_25⟩]
                      have hne : ¬ fwr Lt n dn 0 lz = -9 := by rw [hfv]; exact nI_n9 (by omega)
                      have hbo : ¬ BOK Lt lz n dn := fun z => hne z.2
                      refine lv_sipush (v := -2000) hx hb dX12_beach_111 (by decide) ?_
                      refine lv_aload_n hx hb dX12_beach_114 rfl (lv_at hl 0 rfl) ?_
                      refine va_get (D := (dC, dI)) (ci := 12) (v := Value.ref m_letterAt) (C := RX12) (T := TX12) (N := 33) hx hb hts inX12 hown hK hP 4 rfl rfl 11 (by decide) (hts _ (gw kw_728 rfl)) (fun _ h9 => h9) rfl dX12_beach_115 ?_
                      refine lv_iload_n hx hb dX12_beach_118 rfl (lv_at hl 2 rfl) ?_
                      have h_36 : vp_in (nI (scn Lt e9)) 32 := vp_in_nI (by omega) (by omega)
                      refine va_iald hx hb hK hP 1 0 rfl rfl h_36 dX12_beach_119 ?_
                      refine lv_topi (fun x_37 e_37 => ?_)
                      have h9 : x_37 = nI (lst Lt e9) := by rw [e_37, nI_clamp (by omega)]; exact hs3
                      subst h9
                      refine lv_isub hx hb dX12_beach_120 ?_
                      refine lv_topi (fun x_38 e_38 => ?_)
                      have hpd9 := pd_N (cx := [oX12 g0 m_refused m_kind m_figure m_weight m_got m_setting (nI n) (nI sn) dn m_tape m_letter m_letterAt m_told 0 (nI a) (nI (scn Lt lz)) m_kept him 0 u_27 m_price m_offer m_gets m_yes m_buys m_ends m_carried m_row rm m_keptRow m_likeGets m_likePrice m_ahead, cI aC m_tape 64 tpf, cI aC m_letter 32 lf9, cI aC m_letterAt 32 laf9, cI aC m_told 96 td9, cI aC m_kept 100 u_17, cI aC m_kind 9 u_31, cI aC m_figure 9 u_32, cI aC m_weight 9 u_33, cI aC m_got 8 u_34, cI aC m_setting 5 u_35]) hP hD [4, 0, 2, 1, 3, 5, 6, 7, 8, 9, 10] (by decide) rfl
                      have hP9 := hpd9.1
                      have hD9 := hpd9.2
                      refine W.widen (k := 0) (n := 0) (by omega) (by omega) ?_
                      exact W.iret (v := x_38) hx hb hr (fun t ht hW => ⟨⟨x_38, ((nI n), (nI a), (nI (scn Lt lz)), 0, u_27, u_31, u_32, u_33, u_34, u_35, u_17, lf9, laf9, td9), rfl, ⟨by rw [e_38]; unfold bcR; rw [if_neg hbo]; unfold flR; rw [if_pos ⟨h0z, hlz0⟩, if_neg hne, hfv], by unfold bcN; rw [if_neg hbo], by unfold bcN bcM bcS; rw [if_neg hbo, if_neg hbo, if_neg hbo, if_neg hbo, if_neg hbo]; exact EVS_cp hev (fun j hj => hre.1 j (by omega)) (fun j hj => hre.2.1 j (by omega)) (fun j hj => hre.2.2.1 j (by omega)) hre.2.2.2.2, fun j hj => hre.2.2.2.1 j hj, fun q hq => hpq q (Or.inl (by omega))⟩, by rw [ht]; exact hP9, va_K.moved hW.alike hK, hD9⟩, hS.F ht⟩) hS.2.2 dX12_beach_121
                    · refine lv_goto (tgt := 122) hx hb dX12_beach_102 (by decide) ?_
                      obtain ⟨x_39, e_39⟩ : ∃ y : Int32, y = (nI (scn Lt e9)) + 1 := ⟨_, rfl⟩
                      refine lv_iinc (v := x_39) (lv' := [(2, Value.int x_39), (0, Value.ref g0), (1, Value.int x1)]) hx hb dX12_beach_122 hl (k := 2) rfl (by rw [e_39]; rfl) (by decide) rfl (fun ls hl => ?_)
                      obtain ⟨hrg, hmen, hev2⟩ := hz_96.2 c_25
                      have hsz : u_20 = nI (n + cm Lt (e9 + 1)) := hmen
                      have hP : va_P (dC, dI) classes [cI aC m_tape 64 tpf, cI aC m_letterAt 32 laf9, cI aC m_kept 100 u_17, cI aC m_got 8 pf, oX12 g0 m_refused m_kind m_figure m_weight m_got m_setting (nI (n + cm Lt (e9 + 1))) (nI sn) dn m_tape m_letter m_letterAt m_told 0 (nI a) (nI (scn Lt lz)) m_kept him 1 u_16 m_price m_offer m_gets m_yes m_buys m_ends m_carried m_row rm m_keptRow m_likeGets m_likePrice m_ahead, cI aC m_kind 9 u_21, cI aC m_figure 9 u_22, cI aC m_weight 9 u_23, cI aC m_setting 5 u_24, cI aC m_letter 32 lf9, cI aC m_told 96 td9] H := by rw [← hsz]; exact hP
                      have hD : va_D A [cI aC m_tape 64 tpf, cI aC m_letterAt 32 laf9, cI aC m_kept 100 u_17, cI aC m_got 8 pf, oX12 g0 m_refused m_kind m_figure m_weight m_got m_setting (nI (n + cm Lt (e9 + 1))) (nI sn) dn m_tape m_letter m_letterAt m_told 0 (nI a) (nI (scn Lt lz)) m_kept him 1 u_16 m_price m_offer m_gets m_yes m_buys m_ends m_carried m_row rm m_keptRow m_likeGets m_likePrice m_ahead, cI aC m_kind 9 u_21, cI aC m_figure 9 u_22, cI aC m_weight 9 u_23, cI aC m_setting 5 u_24, cI aC m_letter 32 lf9, cI aC m_told 96 td9] := by rw [← hsz]; exact hD
                      have h9 : x_39 = nI (scn Lt (e9 + 1)) := by rw [e_39, nI_1, scn_y he3]
                      subst h9
                      have hf2 : fwr Lt n dn 0 lz = fwr Lt n dn (e9 + 1) (lz - (e9 + 1)) := by rw [hfe, fwr_s he2, if_neg (fun z => z.2 hrg)]
                      have hrn2 : lrn Lt (e9 + 1) = 0 := lrn_se (z := lz) (by rw [h0z]; decide) he2 he3
                      refine lv_goto (tgt := 86) hx hb dX12_beach_125 (by decide) ?_
                      exact ih_86 (e9 + 1) u_21 u_22 u_23 u_24 (by omega) (by omega) (hrn2) (hf2) (hev2) _ _ _ (hP.sub [0, 9, 1, 10, 4, 2, 5, 6, 7, 3, 8] rfl) (hD.sub [0, 9, 1, 10, 4, 2, 5, 6, 7, 3, 8] (by decide) rfl) hS (lv_sub hl [1, 2, 0] rfl)
              exact lp_86 ((lz - 0) + 1) 0 kf ff wf stf (Nat.lt_succ_self _) (by omega) (rfl) (rfl) (hev) _ _ _ (hP.sub [0, 1, 2, 3, 4, 5, 6, 7, 8, 9, 10] rfl) (hD.sub [0, 1, 2, 3, 4, 5, 6, 7, 8, 9, 10] (by decide) rfl) hS (lv_sub hl [1, 2, 0] rfl)
            · exact absurd c_14 c_1
          · have haz : a < lz ∨ a = 0 := Or.inr (hprs.2.2.2.2.1 ((nI_eq (a := k) (b := 0) (by omega) (by omega)).mp c_13))
            refine lv_aload_n hx hb dX12_beach_34 rfl (lv_at hl 0 rfl) ?_
            have hpd9 := pdf_N (cx := [oX12 g0 m_refused m_kind m_figure m_weight m_got m_setting (nI n) (nI sn) dn m_tape m_letter m_letterAt m_told (nI lz) (nI a) (nI k) m_kept him ki crs m_price m_offer m_gets m_yes m_buys m_ends m_carried m_row rm m_keptRow m_likeGets m_likePrice m_ahead, cI aC m_tape 64 tpf, cI aC m_letter 32 lf9, cI aC m_letterAt 32 laf9, cI aC m_told 96 td9]) hP hD hS hA [0, 1, 2, 3, 4] (by decide) rfl
            have hPc := hpd9.1
            have hDc := hpd9.2.1
            have hFc := hpd9.2.2
            clear hpd9
            refine va_calli (va_runV (As := []) (rest := []) ⟨hx, hb, hml, hown, hts⟩ (c_X12_statement l dC dI aC H.size g0 m_refused m_kind m_figure m_weight m_got m_setting m_tape m_letter m_letterAt m_told m_kept m_price m_offer m_gets m_yes m_buys m_ends m_carried m_row m_keptRow m_likeGets m_likePrice m_ahead (nI n) (nI sn) dn him ki crs rm lz a k Lt tpf lf9 laf9 td9 (hlt0) (hal) (hprs.2.1) (haz) (h3k)) ⟨(callB_of 0 hts (gG kw_835) rfl rfl rfl (hts _ (gw kw_13 rfl)) (hts _ (gw kw_832 rfl)) hd_X12_statement ⟨Nat.le_of_ble_eq_true rfl, Nat.le_of_ble_eq_true rfl⟩), (hts _ (gw kw_834 rfl)), (hts _ (gw ks_36 rfl))⟩ ⟨fb_std, va_recv (q := (RX12, TX12, 33)) hK hPc (ci := 12) (q0 := 0) rfl rfl, pre_std hPc hK hDc hN⟩ rfl rfl hl.1 rfl (lv_room (Nat.le_of_ble_eq_true rfl)) dX12_beach_35 ⟨Nat.le_of_ble_eq_true rfl, Nat.le_of_ble_eq_true rfl⟩) hS (fun q _ h => hFc q h) hFc (fun x_40 u9 t9 H1 locs ht hvm hw_40 hB hz1 hk1 hS => ?_)
            obtain ⟨u_41, u_42, u_43, u_44⟩ := u9
            obtain ⟨hP1, hK1, hD1⟩ := hB
            rw [ht] at hP1
            clear hK1
            try dsimp only at hw_40
            have hpd9 : PDx (dC, dI) classes A H1 [cI aC m_kept 100 kp, cI aC m_kind 9 kf, cI aC m_figure 9 ff, cI aC m_weight 9 wf, cI aC m_got 8 pf, cI aC m_setting 5 stf, oX12 g0 m_refused m_kind m_figure m_weight m_got m_setting (nI n) (nI sn) dn m_tape m_letter m_letterAt m_told (nI lz) u_41 (nI k) m_kept him ki crs m_price m_offer m_gets m_yes m_buys m_ends m_carried m_row rm m_keptRow m_likeGets m_likePrice m_ahead, cI aC m_tape 64 tpf, cI aC m_letter 32 u_42, cI aC m_letterAt 32 u_43, cI aC m_told 96 u_44] := jn_N (wr := [cI aC m_kept 100 kp, cI aC m_kind 9 kf, cI aC m_figure 9 ff, cI aC m_weight 9 wf, cI aC m_got 8 pf, cI aC m_setting 5 stf]) hFc hk1 hP1 hD1 hP hD [0, 1, 2, 3, 4] [5, 6, 7, 8, 9, 10] rfl rfl (by decide) (by decide)
            have hP := hpd9.1
            have hD := hpd9.2
            clear hpd9
            generalize H1 = H at hP hS ⊢
            clear hPc hDc hFc hz1 hk1 hP1 hD1 ht hvm
            have hz_35 := hw_40
            refine lv_istore_n (lv' := [(1, Value.int x_40), (0, Value.ref g0)]) hx hb dX12_beach_38 rfl hl (by decide) rfl (fun ls hl => ?_)
            refine lv_aload_n hx hb dX12_beach_39 rfl (lv_at hl 1 rfl) ?_
            refine lv_dup hx hb dX12_beach_40 rfl ?_
            refine va_get (D := (dC, dI)) (ci := 12) (v := Value.int (nI k)) (C := RX12) (T := TX12) (N := 33) hx hb hts inX12 hown hK hP 6 rfl rfl 15 (by decide) (hts _ (gw kw_732 rfl)) (fun _ h9 => h9) rfl dX12_beach_41 ?_
            refine lv_iload_n hx hb dX12_beach_44 rfl (lv_at hl 0 rfl) ?_
            refine lv_if_eq (tgt := 52) hx hb dX12_beach_45 (by decide) (fun c_45 => ?_) (fun c_45 => ?_)
            · obtain ⟨q, hfl, hat⟩ := hz_35.1 c_45
              have h9 : u_41 = nI q := hat
              subst h9
              refine lv_iconst (v := 0) hx hb dX12_beach_52 (by decide) ?_
              refine lv_iadd hx hb dX12_beach_53 ?_
              refine lv_topi (fun x_46 e_46 => ?_)
              have h9 : x_46 = nI k := by rw [e_46]; exact Int32.add_zero _
              subst h9
              refine va_put (D := (dC, dI)) (ci := 12) (v := Value.int (nI k)) (ty := .int) (C := RX12) (T := TX12) (N := 33) hx hb hts inX12 tyX12 tyX12_ok nmX12 hown hK hP hD hS 6 rfl rfl 15 (by decide) (hts _ (gw kw_732 rfl)) (fun _ h9 => h9) rfl (by decide +kernel) rfl rfl (Nat.le_of_ble_eq_true rfl) dX12_beach_54 (fun H locs hP hD hS => ?_)
              have hpd9 : PDx (dC, dI) classes A H [cI aC m_kept 100 kp, cI aC m_kind 9 kf, cI aC m_figure 9 ff, cI aC m_weight 9 wf, cI aC m_got 8 pf, cI aC m_setting 5 stf, oX12 g0 m_refused m_kind m_figure m_weight m_got m_setting (nI n) (nI sn) dn m_tape m_letter m_letterAt m_told (nI lz) (nI q) (nI k) m_kept him ki crs m_price m_offer m_gets m_yes m_buys m_ends m_carried m_row rm m_keptRow m_likeGets m_likePrice m_ahead, cI aC m_tape 64 tpf, cI aC m_letter 32 u_42, cI aC m_letterAt 32 u_43, cI aC m_told 96 u_44] := ⟨hP, hD⟩
              have hP := hpd9.1
              have hD := hpd9.2
              clear hpd9
              have m1 := bm_1 (d := lz - a) c_1
              have hin2 : (x_40 = 0 → FLP Lt lz q) ∧ (¬ x_40 = 0 → PRS Lt lz q k u_42 u_43 u_44) := ⟨fun _ => hfl, fun z => absurd c_45 z⟩
              have m2 := bm_0 (d := lz - q) c_45
              have hms : bm x_40 (lz - q) < fu := by omega
              refine lv_goto (tgt := 12) hx hb dX12_beach_57 (by decide) ?_
              exact ih_12 q k x_40 u_42 u_43 u_44 (hms) (hin2) _ _ _ (hP.sub [6, 7, 8, 9, 10, 0, 1, 2, 3, 4, 5] rfl) (hD.sub [6, 7, 8, 9, 10, 0, 1, 2, 3, 4, 5] (by decide) rfl) hS (lv_sub hl [1, 0] rfl)
            · obtain ⟨q, hst, hql, hq5, hat, hlf, hla, htl, hfr⟩ := hz_35.2 c_45
              have h9 : u_41 = nI (q + 1) := hat
              subst h9
              refine lv_iconst (v := 1) hx hb dX12_beach_48 (by decide) ?_
              refine lv_goto (tgt := 53) hx hb dX12_beach_49 (by decide) ?_
              refine lv_iadd hx hb dX12_beach_53 ?_
              refine lv_topi (fun x_47 e_47 => ?_)
              have h9 : x_47 = nI (k + 1) := by rw [e_47, nI_1]
              subst h9
              refine va_put (D := (dC, dI)) (ci := 12) (v := Value.int (nI (k + 1))) (ty := .int) (C := RX12) (T := TX12) (N := 33) hx hb hts inX12 tyX12 tyX12_ok nmX12 hown hK hP hD hS 6 rfl rfl 15 (by decide) (hts _ (gw kw_732 rfl)) (fun _ h9 => h9) rfl (by decide +kernel) rfl rfl (Nat.le_of_ble_eq_true rfl) dX12_beach_54 (fun H locs hP hD hS => ?_)
              have hpd9 : PDx (dC, dI) classes A H [cI aC m_kept 100 kp, cI aC m_kind 9 kf, cI aC m_figure 9 ff, cI aC m_weight 9 wf, cI aC m_got 8 pf, cI aC m_setting 5 stf, oX12 g0 m_refused m_kind m_figure m_weight m_got m_setting (nI n) (nI sn) dn m_tape m_letter m_letterAt m_told (nI lz) (nI (q + 1)) (nI (k + 1)) m_kept him ki crs m_price m_offer m_gets m_yes m_buys m_ends m_carried m_row rm m_keptRow m_likeGets m_likePrice m_ahead, cI aC m_tape 64 tpf, cI aC m_letter 32 u_42, cI aC m_letterAt 32 u_43, cI aC m_told 96 u_44] := ⟨hP, hD⟩
              have hP := hpd9.1
              have hD := hpd9.2
              clear hpd9
              have m1 := bm_1 (d := lz - a) c_1
              have hin2 : (x_40 = 0 → FLP Lt lz (q + 1)) ∧ (¬ x_40 = 0 → PRS Lt lz (q + 1) (k + 1) u_42 u_43 u_44) := ⟨fun z => absurd z c_45, fun _ => PRS_s hprs hst hql hq5 hlf hla htl hfr⟩
              have m2 := bm_1 (d := lz - (q + 1)) c_45
              have m3 := (STM_k hst).2
              have hms : bm x_40 (lz - (q + 1)) < fu := by omega
              refine lv_goto (tgt := 12) hx hb dX12_beach_57 (by decide) ?_
              exact ih_12 (q + 1) (k + 1) x_40 u_42 u_43 u_44 (hms) (hin2) _ _ _ (hP.sub [6, 7, 8, 9, 10, 0, 1, 2, 3, 4, 5] rfl) (hD.sub [6, 7, 8, 9, 10, 0, 1, 2, 3, 4, 5] (by decide) rfl) hS (lv_sub hl [1, 0] rfl)
  exact lp_12 ((bm 1 (lz - 0)) + 1) 0 0 1 lf laf tdf (Nat.lt_succ_self _) (⟨fun z => absurd z (by decide), fun _ => PRS_0⟩) _ _ _ (hP.sub [0, 1, 2, 3, 4, 5, 6, 7, 8, 9, 10] rfl) (hD.sub [0, 1, 2, 3, 4, 5, 6, 7, 8, 9, 10] (by decide) rfl) hS (lv_sub hl [1, 0] rfl)
