theorem mt_0 {n c : Nat} (hn : n + c ≤ 8) {x : Int32} (hx : x = nI (n + c)) : (x = 8 → ¬ n + (c + 1) ≤ 8) ∧ (¬ x = 8 → n + (c + 1) ≤ 8) := by
  subst hx
  exact ⟨fun q => by have := (nI_eq (a := n + c) (b := 8) (by omega) (by omega)).mp q; omega, fun q => by have : n + c ≠ 8 := fun e => q (by rw [e]; rfl); omega⟩
theorem z_of {a : Nat} {x : Int32} (hx : x = nI a) (ha : a ≤ 255) : (x = 0 → ¬ 1 ≤ a) ∧ (¬ x = 0 → 1 ≤ a) := by
  subst hx
  exact ⟨fun q => by have := (nI_eq (a := a) (b := 0) (by omega) (by omega)).mp q; omega, fun q => by have : a ≠ 0 := fun e => q (by rw [e]; rfl); omega⟩
theorem lt_of9 {a b : Nat} {x : Int32} (hx : x = nI a) (ha : a ≤ 255) (hb : b ≤ 255) : (nI (b + 1) ≤ x → ¬ a ≤ b) ∧ (¬ nI (b + 1) ≤ x → a ≤ b) := by
  subst hx
  exact ⟨fun q => by have := (nI_leI (a := b + 1) (b := a) (by omega) (by omega)).mp q; omega, fun q => Nat.le_of_not_lt fun z => q (nI_le z (by omega))⟩

set_option maxHeartbeats 1000000 in
set_option maxRecDepth 100000 in
/-- X12_comes -/
theorem c_X12_comes (l : Launch) (dC : Nat → ClassId) (dI : Nat → Nat → Nat) (aC : Nat → ClassId) (sz : Nat) (g0 : Nat) (m_refused : Nat) (m_kind : Nat) (m_figure : Nat) (m_weight : Nat) (m_got : Nat) (m_setting : Nat) (m_tape : Nat) (m_letter : Nat) (m_letterAt : Nat) (m_told : Nat) (m_kept : Nat) (m_price : Nat) (m_offer : Nat) (m_gets : Nat) (m_yes : Nat) (m_buys : Nat) (m_ends : Nat) (m_carried : Nat) (m_row : Nat) (m_keptRow : Nat) (m_likeGets : Nat) (m_likePrice : Nat) (m_ahead : Nat) (tp : Int32) (mat : Int32) (stm : Int32) (him : Int32) (ki : Int32) (crs : Int32) (rm : Int32) (n : Nat) (sn : Nat) (dn : Int32) (K : Nat → Nat) (F : Nat → Nat) (W0 : Nat → Nat) (S5 : Nat → Nat) (kf : Nat → Int32) (ff : Nat → Int32) (wf : Nat → Int32) (stf : Nat → Int32) (lz : Nat) (Lt : Nat → Nat) (ee : Nat) (lf : Nat → Int32) (tdf : Nat → Int32) (hst : STM Lt (lst Lt ee) ee) (hsem : Lt ee = 59) (hsl : Lt (lst Lt ee) ≤ 255) (hlf : lf (scn Lt ee) = nI (Lt (lst Lt ee))) (htl : TLD Lt (lst Lt ee) ee (scn Lt ee) tdf) (hsc : scn Lt ee ≤ 30) (hev : EVT Lt ee n sn dn K F W0 S5 kf ff wf stf) : Met l yX12_comes (wW yX12_comes cX12_comes 4 (some .boolean)) ({ frames := 0, cells := 0, slots := 0, locals := 0 } : Room) (va_Pc [Value.ref g0, Value.int (nI (scn Lt ee))] (fun U => U.heap.size = sz ∧ va_P (dC, dI) classes [oX12 g0 m_refused m_kind m_figure m_weight m_got m_setting (nI (n + cm Lt ee)) (nI sn) dn m_tape m_letter m_letterAt m_told tp mat stm m_kept him ki crs m_price m_offer m_gets m_yes m_buys m_ends m_carried m_row rm m_keptRow m_likeGets m_likePrice m_ahead, cI aC m_kind 9 kf, cI aC m_figure 9 ff, cI aC m_weight 9 wf, cI aC m_setting 5 stf, cI aC m_letter 32 lf, cI aC m_told 96 tdf] U.heap ∧ va_K (dC, dI) classes (TY aC) U ∧ va_D (fun _ => True) [oX12 g0 m_refused m_kind m_figure m_weight m_got m_setting (nI (n + cm Lt ee)) (nI sn) dn m_tape m_letter m_letterAt m_told tp mat stm m_kept him ki crs m_price m_offer m_gets m_yes m_buys m_ends m_carried m_row rm m_keptRow m_likeGets m_likePrice m_ahead, cI aC m_kind 9 kf, cI aC m_figure 9 ff, cI aC m_weight 9 wf, cI aC m_setting 5 stf, cI aC m_letter 32 lf, cI aC m_told 96 tdf] ∧ NX U)) (va_Qi (fun (r : Int32) (u : Int32 × (Nat → Int32) × (Nat → Int32) × (Nat → Int32) × (Nat → Int32)) => match u with | (men2, kf2, ff2, wf2, stf2) => (r = 0 → ¬ RGS Lt n dn ee) ∧ (¬ r = 0 → RGS Lt n dn ee ∧ men2 = nI (n + cm Lt (ee + 1)) ∧ EVT Lt (ee + 1) n sn dn K F W0 S5 kf2 ff2 wf2 stf2)) (fun (u : Int32 × (Nat → Int32) × (Nat → Int32) × (Nat → Int32) × (Nat → Int32)) (t : State) => match u with | (men2, kf2, ff2, wf2, stf2) => va_P (dC, dI) classes [oX12 g0 m_refused m_kind m_figure m_weight m_got m_setting men2 (nI sn) dn m_tape m_letter m_letterAt m_told tp mat stm m_kept him ki crs m_price m_offer m_gets m_yes m_buys m_ends m_carried m_row rm m_keptRow m_likeGets m_likePrice m_ahead, cI aC m_kind 9 kf2, cI aC m_figure 9 ff2, cI aC m_weight 9 wf2, cI aC m_setting 5 stf2, cI aC m_letter 32 lf, cI aC m_told 96 tdf] t.heap ∧ va_K (dC, dI) classes (TY aC) t ∧ va_D (va_A [oX12 g0 m_refused m_kind m_figure m_weight m_got m_setting (nI (n + cm Lt ee)) (nI sn) dn m_tape m_letter m_letterAt m_told tp mat stm m_kept him ki crs m_price m_offer m_gets m_yes m_buys m_ends m_carried m_row rm m_keptRow m_likeGets m_likePrice m_ahead, cI aC m_kind 9 kf, cI aC m_figure 9 ff, cI aC m_weight 9 wf, cI aC m_setting 5 stf, cI aC m_letter 32 lf, cI aC m_told 96 tdf] sz) [oX12 g0 m_refused m_kind m_figure m_weight m_got m_setting men2 (nI sn) dn m_tape m_letter m_letterAt m_told tp mat stm m_kept him ki crs m_price m_offer m_gets m_yes m_buys m_ends m_carried m_row rm m_keptRow m_likeGets m_likePrice m_ahead, cI aC m_kind 9 kf2, cI aC m_figure 9 ff2, cI aC m_weight 9 wf2, cI aC m_setting 5 stf2, cI aC m_letter 32 lf, cI aC m_told 96 tdf]) (va_A [oX12 g0 m_refused m_kind m_figure m_weight m_got m_setting (nI (n + cm Lt ee)) (nI sn) dn m_tape m_letter m_letterAt m_told tp mat stm m_kept him ki crs m_price m_offer m_gets m_yes m_buys m_ends m_carried m_row rm m_keptRow m_likeGets m_likePrice m_ahead, cI aC m_kind 9 kf, cI aC m_figure 9 ff, cI aC m_weight 9 wf, cI aC m_setting 5 stf, cI aC m_letter 32 lf, cI aC m_told 96 tdf] sz)) 0 0 (va_A [oX12 g0 m_refused m_kind m_figure m_weight m_got m_setting (nI (n + cm Lt ee)) (nI sn) dn m_tape m_letter m_letterAt m_told tp mat stm m_kept him ki crs m_price m_offer m_gets m_yes m_buys m_ends m_carried m_row rm m_keptRow m_likeGets m_likePrice m_ahead, cI aC m_kind 9 kf, cI aC m_figure 9 ff, cI aC m_weight 9 wf, cI aC m_setting 5 stf, cI aC m_letter 32 lf, cI aC m_told 96 tdf] sz) := by
  refine Met.ofW (cc := cX12_comes) (maxL := 4) (ret := (some .boolean)) (by decide) rfl ?_
  intro p e s m args below meth c s₁ B hml hv
  obtain ⟨rfl, hsz, hP, hK, hD0, hN⟩ := hv
  have hx := B.exec
  have hb := B.bytes
  have hr := B.returns
  have hts0 := atoms_spec (ws := (wW yX12_comes cX12_comes 4 (some .boolean))) B.pre
  have hts : ∀ w9 ∈ lw_G, w9.before ([Value.ref g0, Value.int (nI (scn Lt ee))] : List Value).toArray s = true := fun w9 h9 => hts0 w9 (List.mem_cons_of_mem _ h9)
  have hown : s.vm.findClass RX12 = some m.cls := findClass_of_methodNamed (x := yX12_comes) B.named
  have hlocks := B.notSynchronized
  subst hsz
  have hD := hD0.self (sz := s.heap.size)
  generalize hAe : va_A [oX12 g0 m_refused m_kind m_figure m_weight m_got m_setting (nI (n + cm Lt ee)) (nI sn) dn m_tape m_letter m_letterAt m_told tp mat stm m_kept him ki crs m_price m_offer m_gets m_yes m_buys m_ends m_carried m_row rm m_keptRow m_likeGets m_likePrice m_ahead, cI aC m_kind 9 kf, cI aC m_figure 9 ff, cI aC m_weight 9 wf, cI aC m_setting 5 stf, cI aC m_letter 32 lf, cI aC m_told 96 tdf] s.heap.size = A at hD ⊢
  have hA : ∀ q : Nat, s.heap.size ≤ q → A q := fun q h => by rw [← hAe]; exact Or.inr h
  obtain ⟨H, hHe⟩ : ∃ H : Heap, H = s.heap := ⟨_, rfl⟩
  have hS : va_S A s.heap H [] := by rw [hHe]; exact va_S.rf
  have hP : va_P (dC, dI) classes [oX12 g0 m_refused m_kind m_figure m_weight m_got m_setting (nI (n + cm Lt ee)) (nI sn) dn m_tape m_letter m_letterAt m_told tp mat stm m_kept him ki crs m_price m_offer m_gets m_yes m_buys m_ends m_carried m_row rm m_keptRow m_likeGets m_likePrice m_ahead, cI aC m_kind 9 kf, cI aC m_figure 9 ff, cI aC m_weight 9 wf, cI aC m_setting 5 stf, cI aC m_letter 32 lf, cI aC m_told 96 tdf] H := by rw [hHe]; exact hP
  have hl := lv_entry ([Value.ref g0, Value.int (nI (scn Lt ee))]) (n := 4) (Nat.le_of_ble_eq_true rfl)
  rw [lg_entry_eq]
  generalize (lg_sl ([Value.ref g0, Value.int (nI (scn Lt ee))]) ++ List.replicate (4 - (lg_sl ([Value.ref g0, Value.int (nI (scn Lt ee))])).length) Slot.unset).toArray = ls at hl ⊢
  have hl : lv_has ls 4 [(0, Value.ref g0), (1, Value.int (nI (scn Lt ee)))] := hl
  rw [← hHe]
  have hn8 := hev.1.1
  refine lv_iconst (v := 3) hx hb dX12_comes_0 (by decide) ?_
  refine lv_iload_n hx hb dX12_comes_1 rfl (lv_at hl 1 rfl) ?_
  refine lv_imul hx hb dX12_comes_2 ?_
  refine lv_topi (fun x_1 e_1 => ?_)
  have h9 : x_1 = nI (3 * scn Lt ee) := by rw [e_1]; exact pk_mul 3 _
  subst h9
  refine lv_istore_n (lv' := [(2, Value.int (nI (3 * scn Lt ee))), (0, Value.ref g0), (1, Value.int (nI (scn Lt ee)))]) hx hb dX12_comes_3 rfl hl (by decide) rfl (fun ls hl => ?_)
  refine lv_aload_n hx hb dX12_comes_4 rfl (lv_at hl 1 rfl) ?_
  refine va_get (D := (dC, dI)) (ci := 12) (v := Value.ref m_letter) (C := RX12) (T := TX12) (N := 33) hx hb hts inX12 hown hK hP 0 rfl rfl 10 (by decide) (hts _ (gw kw_727 rfl)) (fun _ h9 => h9) rfl dX12_comes_5 ?_
  refine lv_iload_n hx hb dX12_comes_8 rfl (lv_at hl 2 rfl) ?_
  have h_2 : vp_in (nI (scn Lt ee)) 32 := vp_in_nI (by omega) (by omega)
  refine va_iald hx hb hK hP 5 0 rfl rfl h_2 dX12_comes_9 ?_
  refine lv_topi (fun x_3 e_3 => ?_)
  have h9 : x_3 = nI (Lt (lst Lt ee)) := by rw [e_3, nI_clamp (by omega)]; exact hlf
  subst h9
  refine lv_bipush (v := 99) hx hb dX12_comes_10 (by decide) ?_
  refine lv_icmp_ne (tgt := 29) hx hb dX12_comes_12 (by decide) (fun c_4 => ?_) (fun c_4 => ?_)
  · refine lv_aload_n hx hb dX12_comes_29 rfl (lv_at hl 1 rfl) ?_
    refine va_get (D := (dC, dI)) (ci := 12) (v := Value.ref m_letter) (C := RX12) (T := TX12) (N := 33) hx hb hts inX12 hown hK hP 0 rfl rfl 10 (by decide) (hts _ (gw kw_727 rfl)) (fun _ h9 => h9) rfl dX12_comes_30 ?_
    refine lv_iload_n hx hb dX12_comes_33 rfl (lv_at hl 2 rfl) ?_
    have h_5 : vp_in (nI (scn Lt ee)) 32 := vp_in_nI (by omega) (by omega)
    refine va_iald hx hb hK hP 5 0 rfl rfl h_5 dX12_comes_34 ?_
    refine lv_topi (fun x_6 e_6 => ?_)
    have h9 : x_6 = nI (Lt (lst Lt ee)) := by rw [e_6, nI_clamp (by omega)]; exact hlf
    subst h9
    refine lv_bipush (v := 108) hx hb dX12_comes_35 (by decide) ?_
    refine lv_icmp_ne (tgt := 109) hx hb dX12_comes_37 (by decide) (fun c_7 => ?_) (fun c_7 => ?_)
    · have hm9 : Lt (lst Lt ee) = 109 := by
        rcases (STM_k hst).1 with q | q | q
        · exact q
        · exact absurd (by rw [q]; rfl) c_7
        · exact absurd (by rw [q]; rfl) c_4
      obtain ⟨he4, hd1, hd2, hd3⟩ := STM_d hst (Or.inl hm9)
      have htd := htl.1 (Or.inl hm9)
      have hcy := cm_y hsem hm9
      refine lv_aload_n hx hb dX12_comes_109 rfl (lv_at hl 1 rfl) ?_
      refine va_get (D := (dC, dI)) (ci := 12) (v := Value.ref m_told) (C := RX12) (T := TX12) (N := 33) hx hb hts inX12 hown hK hP 0 rfl rfl 12 (by decide) (hts _ (gw kw_729 rfl)) (fun _ h9 => h9) rfl dX12_comes_110 ?_
      refine lv_iload_n hx hb dX12_comes_113 rfl (lv_at hl 0 rfl) ?_
      have h_8 : vp_in (nI (3 * scn Lt ee)) 96 := vp_in_nI (by omega) (by omega)
      refine va_iald hx hb hK hP 6 0 rfl rfl h_8 dX12_comes_114 ?_
      refine lv_topi (fun x_9 e_9 => ?_)
      have h9 : x_9 = nI (Lt (lst Lt ee + 1) - 48) := by rw [e_9, nI_clamp (by omega)]; exact htd 0 (by omega)
      subst h9
      refine lv_bipush (v := 6) hx hb dX12_comes_115 (by decide) ?_
      refine lv_icmp_gt (tgt := 148) hx hb dX12_comes_117 (by decide) (fun c_10 => ?_) (fun c_10 => ?_)
      · refine lv_iconst (v := 0) hx hb dX12_comes_148 (by decide) ?_
        have hpd9 := pd_N (cx := [oX12 g0 m_refused m_kind m_figure m_weight m_got m_setting (nI (n + cm Lt ee)) (nI sn) dn m_tape m_letter m_letterAt m_told tp mat stm m_kept him ki crs m_price m_offer m_gets m_yes m_buys m_ends m_carried m_row rm m_keptRow m_likeGets m_likePrice m_ahead, cI aC m_kind 9 kf, cI aC m_figure 9 ff, cI aC m_weight 9 wf, cI aC m_setting 5 stf, cI aC m_letter 32 lf, cI aC m_told 96 tdf]) hP hD [0, 1, 2, 3, 4, 5, 6] (by decide) rfl
        have hP9 := hpd9.1
        have hD9 := hpd9.2
        refine W.widen (k := 0) (n := 0) (by omega) (by omega) ?_
        exact W.zret (v := 0) hx hb hr rfl (fun t ht hW => ⟨⟨0, ((nI (n + cm Lt ee)), kf, ff, wf, stf), rfl, ⟨fun _ => rg_n1 hm9 (fun z => (le_of (b := 6) (rfl : nI (Lt (lst Lt ee + 1) - 48) = _) (dig255 hd1) (by omega)).1 c_10 z.1), fun q => absurd rfl q⟩, by rw [ht]; exact hP9, va_K.moved hW.alike hK, hD9⟩, hS.F ht⟩) hS.2.2 dX12_comes_149
      · refine lv_aload_n hx hb dX12_comes_120 rfl (lv_at hl 1 rfl) ?_
        refine va_get (D := (dC, dI)) (ci := 12) (v := Value.ref m_told) (C := RX12) (T := TX12) (N := 33) hx hb hts inX12 hown hK hP 0 rfl rfl 12 (by decide) (hts _ (gw kw_729 rfl)) (fun _ h9 => h9) rfl dX12_comes_121 ?_
        refine lv_iload_n hx hb dX12_comes_124 rfl (lv_at hl 0 rfl) ?_
        refine lv_iconst (v := 2) hx hb dX12_comes_125 (by decide) ?_
        refine lv_iadd hx hb dX12_comes_126 ?_
        refine lv_topi (fun x_11 e_11 => ?_)
        have h9 : x_11 = nI (3 * scn Lt ee + 2) := by rw [e_11]; exact nI_add (3 * scn Lt ee) 2
        subst h9
        have h_12 : vp_in (nI (3 * scn Lt ee + 2)) 96 := vp_in_nI (by omega) (by omega)
        refine va_iald hx hb hK hP 6 0 rfl rfl h_12 dX12_comes_127 ?_
        refine lv_topi (fun x_13 e_13 => ?_)
        have h9 : x_13 = nI (Lt (lst Lt ee + 3) - 48) := by rw [e_13, nI_clamp (by omega)]; exact htd 2 (by omega)
        subst h9
        refine lv_if_eq (tgt := 148) hx hb dX12_comes_128 (by decide) (fun c_14 => ?_) (fun c_14 => ?_)
        · refine lv_iconst (v := 0) hx hb dX12_comes_148 (by decide) ?_
          have hpd9 := pd_N (cx := [oX12 g0 m_refused m_kind m_figure m_weight m_got m_setting (nI (n + cm Lt ee)) (nI sn) dn m_tape m_letter m_letterAt m_told tp mat stm m_kept him ki crs m_price m_offer m_gets m_yes m_buys m_ends m_carried m_row rm m_keptRow m_likeGets m_likePrice m_ahead, cI aC m_kind 9 kf, cI aC m_figure 9 ff, cI aC m_weight 9 wf, cI aC m_setting 5 stf, cI aC m_letter 32 lf, cI aC m_told 96 tdf]) hP hD [0, 1, 2, 3, 4, 5, 6] (by decide) rfl
          have hP9 := hpd9.1
          have hD9 := hpd9.2
          refine W.widen (k := 0) (n := 0) (by omega) (by omega) ?_
          exact W.zret (v := 0) hx hb hr rfl (fun t ht hW => ⟨⟨0, ((nI (n + cm Lt ee)), kf, ff, wf, stf), rfl, ⟨fun _ => rg_n1 hm9 (fun z => (z_of (rfl : nI (Lt (lst Lt ee + 3) - 48) = _) (dig255 hd3)).1 c_14 z.2.1), fun q => absurd rfl q⟩, by rw [ht]; exact hP9, va_K.moved hW.alike hK, hD9⟩, hS.F ht⟩) hS.2.2 dX12_comes_149
        · refine lv_aload_n hx hb dX12_comes_131 rfl (lv_at hl 1 rfl) ?_
          refine va_get (D := (dC, dI)) (ci := 12) (v := Value.int (nI (n + cm Lt ee))) (C := RX12) (T := TX12) (N := 33) hx hb hts inX12 hown hK hP 0 rfl rfl 6 (by decide) (hts _ (gw kw_723 rfl)) (fun _ h9 => h9) rfl dX12_comes_132 ?_
          refine lv_bipush (v := 8) hx hb dX12_comes_135 (by decide) ?_
          refine lv_icmp_eq (tgt := 148) hx hb dX12_comes_137 (by decide) (fun c_15 => ?_) (fun c_15 => ?_)
          · refine lv_iconst (v := 0) hx hb dX12_comes_148 (by decide) ?_
            have hpd9 := pd_N (cx := [oX12 g0 m_refused m_kind m_figure m_weight m_got m_setting (nI (n + cm Lt ee)) (nI sn) dn m_tape m_letter m_letterAt m_told tp mat stm m_kept him ki crs m_price m_offer m_gets m_yes m_buys m_ends m_carried m_row rm m_keptRow m_likeGets m_likePrice m_ahead, cI aC m_kind 9 kf, cI aC m_figure 9 ff, cI aC m_weight 9 wf, cI aC m_setting 5 stf, cI aC m_letter 32 lf, cI aC m_told 96 tdf]) hP hD [0, 1, 2, 3, 4, 5, 6] (by decide) rfl
            have hP9 := hpd9.1
            have hD9 := hpd9.2
            refine W.widen (k := 0) (n := 0) (by omega) (by omega) ?_
            exact W.zret (v := 0) hx hb hr rfl (fun t ht hW => ⟨⟨0, ((nI (n + cm Lt ee)), kf, ff, wf, stf), rfl, ⟨fun _ => rg_n1 hm9 (fun z => (mt_0 hev.1.1 rfl).1 c_15 (by have := z.2.2.1; rw [hcy] at this; exact this)), fun q => absurd rfl q⟩, by rw [ht]; exact hP9, va_K.moved hW.alike hK, hD9⟩, hS.F ht⟩) hS.2.2 dX12_comes_149
          · refine lv_aload_n hx hb dX12_comes_140 rfl (lv_at hl 1 rfl) ?_
            refine va_get (D := (dC, dI)) (ci := 12) (v := Value.int dn) (C := RX12) (T := TX12) (N := 33) hx hb hts inX12 hown hK hP 0 rfl rfl 8 (by decide) (hts _ (gw kw_725 rfl)) (fun _ h9 => h9) rfl dX12_comes_141 ?_
            refine lv_iconst (v := 1) hx hb dX12_comes_144 (by decide) ?_
            refine lv_icmp_ne (tgt := 150) hx hb dX12_comes_145 (by decide) (fun c_16 => ?_) (fun c_16 => ?_)
            · have hn9 := (mt_0 hev.1.1 rfl).2 c_15
              have hr9 : RGS Lt n dn ee := rg_y1 hm9 ⟨(le_of (b := 6) (rfl : nI (Lt (lst Lt ee + 1) - 48) = _) (dig255 hd1) (by omega)).2 c_10, (z_of (rfl : nI (Lt (lst Lt ee + 3) - 48) = _) (dig255 hd3)).2 c_14, by rw [hcy]; exact hn9, hev.2.2.2.2.resolve_right c_16⟩
              refine lv_aload_n hx hb dX12_comes_150 rfl (lv_at hl 1 rfl) ?_
              refine va_get (D := (dC, dI)) (ci := 12) (v := Value.ref m_kind) (C := RX12) (T := TX12) (N := 33) hx hb hts inX12 hown hK hP 0 rfl rfl 1 (by decide) (hts _ (gw kw_718 rfl)) (fun _ h9 => h9) rfl dX12_comes_151 ?_
              refine lv_aload_n hx hb dX12_comes_154 rfl (lv_at hl 1 rfl) ?_
              refine va_get (D := (dC, dI)) (ci := 12) (v := Value.int (nI (n + cm Lt ee))) (C := RX12) (T := TX12) (N := 33) hx hb hts inX12 hown hK hP 0 rfl rfl 6 (by decide) (hts _ (gw kw_723 rfl)) (fun _ h9 => h9) rfl dX12_comes_155 ?_
              refine lv_aload_n hx hb dX12_comes_158 rfl (lv_at hl 1 rfl) ?_
              refine va_get (D := (dC, dI)) (ci := 12) (v := Value.ref m_told) (C := RX12) (T := TX12) (N := 33) hx hb hts inX12 hown hK hP 0 rfl rfl 12 (by decide) (hts _ (gw kw_729 rfl)) (fun _ h9 => h9) rfl dX12_comes_159 ?_
              refine lv_iload_n hx hb dX12_comes_162 rfl (lv_at hl 0 rfl) ?_
              have h_17 : vp_in (nI (3 * scn Lt ee)) 96 := vp_in_nI (by omega) (by omega)
              refine va_iald hx hb hK hP 6 0 rfl rfl h_17 dX12_comes_163 ?_
              refine lv_topi (fun x_18 e_18 => ?_)
              have h9 : x_18 = nI (Lt (lst Lt ee + 1) - 48) := by rw [e_18, nI_clamp (by omega)]; exact htd 0 (by omega)
              subst h9
              have h_19 : vp_in (nI (n + cm Lt ee)) 9 := vp_in_nI (by omega) (by omega)
              refine va_iast hx hb hK hP hD hS 1 0 rfl rfl h_19 dX12_comes_164 (fun H locs hP hD hS => ?_)
              obtain ⟨f_20, e_f_20⟩ : ∃ y : Nat → Int32, y = upd kf (nI (n + cm Lt ee) : Int32).toNatClampNeg (nI (Lt (lst Lt ee + 1) - 48)) := ⟨_, rfl⟩
              have hpd9 : PDx (dC, dI) classes A H [oX12 g0 m_refused m_kind m_figure m_weight m_got m_setting (nI (n + cm Lt ee)) (nI sn) dn m_tape m_letter m_letterAt m_told tp mat stm m_kept him ki crs m_price m_offer m_gets m_yes m_buys m_ends m_carried m_row rm m_keptRow m_likeGets m_likePrice m_ahead, cI aC m_kind 9 f_20, cI aC m_figure 9 ff, cI aC m_weight 9 wf, cI aC m_setting 5 stf, cI aC m_letter 32 lf, cI aC m_told 96 tdf] := by rw [e_f_20]; exact ⟨hP, hD⟩
              have hP := hpd9.1
              have hD := hpd9.2
              clear hpd9
              refine lv_aload_n hx hb dX12_comes_165 rfl (lv_at hl 1 rfl) ?_
              refine va_get (D := (dC, dI)) (ci := 12) (v := Value.ref m_figure) (C := RX12) (T := TX12) (N := 33) hx hb hts inX12 hown hK hP 0 rfl rfl 2 (by decide) (hts _ (gw kw_719 rfl)) (fun _ h9 => h9) rfl dX12_comes_166 ?_
              refine lv_aload_n hx hb dX12_comes_169 rfl (lv_at hl 1 rfl) ?_
              refine va_get (D := (dC, dI)) (ci := 12) (v := Value.int (nI (n + cm Lt ee))) (C := RX12) (T := TX12) (N := 33) hx hb hts inX12 hown hK hP 0 rfl rfl 6 (by decide) (hts _ (gw kw_723 rfl)) (fun _ h9 => h9) rfl dX12_comes_170 ?_
              refine lv_aload_n hx hb dX12_comes_173 rfl (lv_at hl 1 rfl) ?_
              refine va_get (D := (dC, dI)) (ci := 12) (v := Value.ref m_told) (C := RX12) (T := TX12) (N := 33) hx hb hts inX12 hown hK hP 0 rfl rfl 12 (by decide) (hts _ (gw kw_729 rfl)) (fun _ h9 => h9) rfl dX12_comes_174 ?_
              refine lv_iload_n hx hb dX12_comes_177 rfl (lv_at hl 0 rfl) ?_
              refine lv_iconst (v := 1) hx hb dX12_comes_178 (by decide) ?_
              refine lv_iadd hx hb dX12_comes_179 ?_
              refine lv_topi (fun x_21 e_21 => ?_)
              have h9 : x_21 = nI (3 * scn Lt ee + 1) := by rw [e_21]; exact nI_add (3 * scn Lt ee) 1
              subst h9
              have h_22 : vp_in (nI (3 * scn Lt ee + 1)) 96 := vp_in_nI (by omega) (by omega)
              refine va_iald hx hb hK hP 6 0 rfl rfl h_22 dX12_comes_180 ?_
              refine lv_topi (fun x_23 e_23 => ?_)
              have h9 : x_23 = nI (Lt (lst Lt ee + 2) - 48) := by rw [e_23, nI_clamp (by omega)]; exact htd 1 (by omega)
              subst h9
              have h_24 : vp_in (nI (n + cm Lt ee)) 9 := vp_in_nI (by omega) (by omega)
              refine va_iast hx hb hK hP hD hS 2 0 rfl rfl h_24 dX12_comes_181 (fun H locs hP hD hS => ?_)
              obtain ⟨f_25, e_f_25⟩ : ∃ y : Nat → Int32, y = upd ff (nI (n + cm Lt ee) : Int32).toNatClampNeg (nI (Lt (lst Lt ee + 2) - 48)) := ⟨_, rfl⟩
              have hpd9 : PDx (dC, dI) classes A H [oX12 g0 m_refused m_kind m_figure m_weight m_got m_setting (nI (n + cm Lt ee)) (nI sn) dn m_tape m_letter m_letterAt m_told tp mat stm m_kept him ki crs m_price m_offer m_gets m_yes m_buys m_ends m_carried m_row rm m_keptRow m_likeGets m_likePrice m_ahead, cI aC m_kind 9 f_20, cI aC m_figure 9 f_25, cI aC m_weight 9 wf, cI aC m_setting 5 stf, cI aC m_letter 32 lf, cI aC m_told 96 tdf] := by rw [e_f_25]; exact ⟨hP, hD⟩
              have hP := hpd9.1
              have hD := hpd9.2
              clear hpd9
              refine lv_aload_n hx hb dX12_comes_182 rfl (lv_at hl 1 rfl) ?_
              refine va_get (D := (dC, dI)) (ci := 12) (v := Value.ref m_weight) (C := RX12) (T := TX12) (N := 33) hx hb hts inX12 hown hK hP 0 rfl rfl 3 (by decide) (hts _ (gw kw_720 rfl)) (fun _ h9 => h9) rfl dX12_comes_183 ?_
              refine lv_aload_n hx hb dX12_comes_186 rfl (lv_at hl 1 rfl) ?_
              refine va_get (D := (dC, dI)) (ci := 12) (v := Value.int (nI (n + cm Lt ee))) (C := RX12) (T := TX12) (N := 33) hx hb hts inX12 hown hK hP 0 rfl rfl 6 (by decide) (hts _ (gw kw_723 rfl)) (fun _ h9 => h9) rfl dX12_comes_187 ?_
              refine lv_aload_n hx hb dX12_comes_190 rfl (lv_at hl 1 rfl) ?_
              refine va_get (D := (dC, dI)) (ci := 12) (v := Value.ref m_told) (C := RX12) (T := TX12) (N := 33) hx hb hts inX12 hown hK hP 0 rfl rfl 12 (by decide) (hts _ (gw kw_729 rfl)) (fun _ h9 => h9) rfl dX12_comes_191 ?_
              refine lv_iload_n hx hb dX12_comes_194 rfl (lv_at hl 0 rfl) ?_
              refine lv_iconst (v := 2) hx hb dX12_comes_195 (by decide) ?_
              refine lv_iadd hx hb dX12_comes_196 ?_
              refine lv_topi (fun x_26 e_26 => ?_)
              have h9 : x_26 = nI (3 * scn Lt ee + 2) := by rw [e_26]; exact nI_add (3 * scn Lt ee) 2
              subst h9
              have h_27 : vp_in (nI (3 * scn Lt ee + 2)) 96 := vp_in_nI (by omega) (by omega)
              refine va_iald hx hb hK hP 6 0 rfl rfl h_27 dX12_comes_197 ?_
              refine lv_topi (fun x_28 e_28 => ?_)
              have h9 : x_28 = nI (Lt (lst Lt ee + 3) - 48) := by rw [e_28, nI_clamp (by omega)]; exact htd 2 (by omega)
              subst h9
              have h_29 : vp_in (nI (n + cm Lt ee)) 9 := vp_in_nI (by omega) (by omega)
              refine va_iast hx hb hK hP hD hS 3 0 rfl rfl h_29 dX12_comes_198 (fun H locs hP hD hS => ?_)
              obtain ⟨f_30, e_f_30⟩ : ∃ y : Nat → Int32, y = upd wf (nI (n + cm Lt ee) : Int32).toNatClampNeg (nI (Lt (lst Lt ee + 3) - 48)) := ⟨_, rfl⟩
              have hpd9 : PDx (dC, dI) classes A H [oX12 g0 m_refused m_kind m_figure m_weight m_got m_setting (nI (n + cm Lt ee)) (nI sn) dn m_tape m_letter m_letterAt m_told tp mat stm m_kept him ki crs m_price m_offer m_gets m_yes m_buys m_ends m_carried m_row rm m_keptRow m_likeGets m_likePrice m_ahead, cI aC m_kind 9 f_20, cI aC m_figure 9 f_25, cI aC m_weight 9 f_30, cI aC m_setting 5 stf, cI aC m_letter 32 lf, cI aC m_told 96 tdf] := by rw [e_f_30]; exact ⟨hP, hD⟩
              have hP := hpd9.1
              have hD := hpd9.2
              clear hpd9
              refine lv_aload_n hx hb dX12_comes_199 rfl (lv_at hl 1 rfl) ?_
              refine lv_dup hx hb dX12_comes_200 rfl ?_
              refine va_get (D := (dC, dI)) (ci := 12) (v := Value.int (nI (n + cm Lt ee))) (C := RX12) (T := TX12) (N := 33) hx hb hts inX12 hown hK hP 0 rfl rfl 6 (by decide) (hts _ (gw kw_723 rfl)) (fun _ h9 => h9) rfl dX12_comes_201 ?_
              refine lv_iconst (v := 1) hx hb dX12_comes_204 (by decide) ?_
              refine lv_iadd hx hb dX12_comes_205 ?_
              refine lv_topi (fun x_31 e_31 => ?_)
              refine va_put (D := (dC, dI)) (ci := 12) (v := Value.int x_31) (ty := .int) (C := RX12) (T := TX12) (N := 33) hx hb hts inX12 tyX12 tyX12_ok nmX12 hown hK hP hD hS 0 rfl rfl 6 (by decide) (hts _ (gw kw_723 rfl)) (fun _ h9 => h9) rfl (by decide +kernel) rfl rfl (Nat.le_of_ble_eq_true rfl) dX12_comes_206 (fun H locs hP hD hS => ?_)
              have hpd9 : PDx (dC, dI) classes A H [oX12 g0 m_refused m_kind m_figure m_weight m_got m_setting x_31 (nI sn) dn m_tape m_letter m_letterAt m_told tp mat stm m_kept him ki crs m_price m_offer m_gets m_yes m_buys m_ends m_carried m_row rm m_keptRow m_likeGets m_likePrice m_ahead, cI aC m_kind 9 f_20, cI aC m_figure 9 f_25, cI aC m_weight 9 f_30, cI aC m_setting 5 stf, cI aC m_letter 32 lf, cI aC m_told 96 tdf] := ⟨hP, hD⟩
              have hP := hpd9.1
              have hD := hpd9.2
              clear hpd9
              have h9 : x_31 = nI (n + cm Lt ee + 1) := by rw [e_31, nI_1]
              subst h9
              refine lv_iconst (v := 1) hx hb dX12_comes_209 (by decide) ?_
              have hpd9 := pd_N (cx := [oX12 g0 m_refused m_kind m_figure m_weight m_got m_setting (nI (n + cm Lt ee + 1)) (nI sn) dn m_tape m_letter m_letterAt m_told tp mat stm m_kept him ki crs m_price m_offer m_gets m_yes m_buys m_ends m_carried m_row rm m_keptRow m_likeGets m_likePrice m_ahead, cI aC m_kind 9 f_20, cI aC m_figure 9 f_25, cI aC m_weight 9 f_30, cI aC m_setting 5 stf, cI aC m_letter 32 lf, cI aC m_told 96 tdf]) hP hD [0, 1, 2, 3, 4, 5, 6] (by decide) rfl
              have hP9 := hpd9.1
              have hD9 := hpd9.2
              refine W.widen (k := 0) (n := 0) (by omega) (by omega) ?_
              exact W.zret (v := 1) hx hb hr rfl (fun t ht hW => ⟨⟨1, ((nI (n + cm Lt ee + 1)), f_20, f_25, f_30, stf), rfl, ⟨fun q => absurd q (by decide), fun _ => ⟨hr9, by rw [hcy]; rfl, EVT_m hev hsem hm9 hst hr9 (by rw [e_f_20, nI_clamp (by omega)]) (by rw [e_f_25, nI_clamp (by omega)]) (by rw [e_f_30, nI_clamp (by omega)])⟩⟩, by rw [ht]; exact hP9, va_K.moved hW.alike hK, hD9⟩, hS.F ht⟩) hS.2.2 dX12_comes_210
            · refine lv_iconst (v := 0) hx hb dX12_comes_148 (by decide) ?_
              have hpd9 := pd_N (cx := [oX12 g0 m_refused m_kind m_figure m_weight m_got m_setting (nI (n + cm Lt ee)) (nI sn) dn m_tape m_letter m_letterAt m_told tp mat stm m_kept him ki crs m_price m_offer m_gets m_yes m_buys m_ends m_carried m_row rm m_keptRow m_likeGets m_likePrice m_ahead, cI aC m_kind 9 kf, cI aC m_figure 9 ff, cI aC m_weight 9 wf, cI aC m_setting 5 stf, cI aC m_letter 32 lf, cI aC m_told 96 tdf]) hP hD [0, 1, 2, 3, 4, 5, 6] (by decide) rfl
              have hP9 := hpd9.1
              have hD9 := hpd9.2
              refine W.widen (k := 0) (n := 0) (by omega) (by omega) ?_
              exact W.zret (v := 0) hx hb hr rfl (fun t ht hW => ⟨⟨0, ((nI (n + cm Lt ee)), kf, ff, wf, stf), rfl, ⟨fun _ => rg_n1 hm9 (fun z => absurd (z.2.2.2.symm.trans c_16) (by decide)), fun q => absurd rfl q⟩, by rw [ht]; exact hP9, va_K.moved hW.alike hK, hD9⟩, hS.F ht⟩) hS.2.2 dX12_comes_149
    · have hm8 : Lt (lst Lt ee) = 108 := (nI_b0 (k := 108) hsl (by omega)).mp c_7
      obtain ⟨he4, hd1, hd2, hd3⟩ := STM_d hst (Or.inr hm8)
      have htd := htl.1 (Or.inr hm8)
      refine lv_iconst (v := 0) hx hb dX12_comes_40 (by decide) ?_
      refine lv_istore_n (lv' := [(3, Value.int 0), (2, Value.int (nI (3 * scn Lt ee))), (0, Value.ref g0), (1, Value.int (nI (scn Lt ee)))]) hx hb dX12_comes_41 rfl hl (by decide) rfl (fun ls hl => ?_)
      refine lv_iload_n hx hb dX12_comes_42 rfl (lv_at hl 0 rfl) ?_
      refine lv_iconst (v := 3) hx hb dX12_comes_43 (by decide) ?_
      refine lv_icmp_ge (tgt := 69) hx hb dX12_comes_44 (by decide) (fun c_32 => ?_) (fun c_32 => ?_)
      · exact absurd c_32 (by decide)
      · refine lv_aload_n hx hb dX12_comes_47 rfl (lv_at hl 2 rfl) ?_
        refine va_get (D := (dC, dI)) (ci := 12) (v := Value.ref m_setting) (C := RX12) (T := TX12) (N := 33) hx hb hts inX12 hown hK hP 0 rfl rfl 5 (by decide) (hts _ (gw kw_722 rfl)) (fun _ h9 => h9) rfl dX12_comes_48 ?_
        refine lv_iconst (v := 1) hx hb dX12_comes_51 (by decide) ?_
        refine lv_iload_n hx hb dX12_comes_52 rfl (lv_at hl 0 rfl) ?_
        refine lv_iadd hx hb dX12_comes_53 ?_
        refine lv_topi (fun x_33 e_33 => ?_)
        have h9 : x_33 = 1 := by rw [e_33]; rfl
        subst h9
        refine lv_aload_n hx hb dX12_comes_54 rfl (lv_at hl 2 rfl) ?_
        refine va_get (D := (dC, dI)) (ci := 12) (v := Value.ref m_told) (C := RX12) (T := TX12) (N := 33) hx hb hts inX12 hown hK hP 0 rfl rfl 12 (by decide) (hts _ (gw kw_729 rfl)) (fun _ h9 => h9) rfl dX12_comes_55 ?_
        refine lv_iload_n hx hb dX12_comes_58 rfl (lv_at hl 1 rfl) ?_
        refine lv_iload_n hx hb dX12_comes_59 rfl (lv_at hl 0 rfl) ?_
        refine lv_iadd hx hb dX12_comes_60 ?_
        refine lv_topi (fun x_34 e_34 => ?_)
        have h9 : x_34 = nI (3 * scn Lt ee + 0) := by rw [e_34]; exact nI_add (3 * scn Lt ee) 0
        subst h9
        have h_35 : vp_in (nI (3 * scn Lt ee + 0)) 96 := vp_in_nI (by omega) (by omega)
        refine va_iald hx hb hK hP 6 0 rfl rfl h_35 dX12_comes_61 ?_
        refine lv_topi (fun x_36 e_36 => ?_)
        have h9 : x_36 = nI (Lt (lst Lt ee + 1) - 48) := by rw [e_36, nI_clamp (by omega)]; exact htd 0 (by omega)
        subst h9
        have h_37 : vp_in 1 5 := by unfold vp_in; decide
        refine va_iast hx hb hK hP hD hS 4 0 rfl rfl h_37 dX12_comes_62 (fun H locs hP hD hS => ?_)
        obtain ⟨f_38, e_f_38⟩ : ∃ y : Nat → Int32, y = upd stf (1 : Int32).toNatClampNeg (nI (Lt (lst Lt ee + 1) - 48)) := ⟨_, rfl⟩
        have hpd9 : PDx (dC, dI) classes A H [oX12 g0 m_refused m_kind m_figure m_weight m_got m_setting (nI (n + cm Lt ee)) (nI sn) dn m_tape m_letter m_letterAt m_told tp mat stm m_kept him ki crs m_price m_offer m_gets m_yes m_buys m_ends m_carried m_row rm m_keptRow m_likeGets m_likePrice m_ahead, cI aC m_kind 9 kf, cI aC m_figure 9 ff, cI aC m_weight 9 wf, cI aC m_setting 5 f_38, cI aC m_letter 32 lf, cI aC m_told 96 tdf] := by rw [e_f_38]; exact ⟨hP, hD⟩
        have hP := hpd9.1
        have hD := hpd9.2
        clear hpd9
        obtain ⟨x_39, e_39⟩ : ∃ y : Int32, y = 0 + 1 := ⟨_, rfl⟩
        refine lv_iinc (v := x_39) (lv' := [(3, Value.int x_39), (2, Value.int (nI (3 * scn Lt ee))), (0, Value.ref g0), (1, Value.int (nI (scn Lt ee)))]) hx hb dX12_comes_63 hl (k := 0) rfl (by rw [e_39]; rfl) (by decide) rfl (fun ls hl => ?_)
        have h9 : x_39 = 1 := by rw [e_39]; rfl
        subst h9
        refine lv_goto (tgt := 42) hx hb dX12_comes_66 (by decide) ?_
        refine lv_iload_n hx hb dX12_comes_42 rfl (lv_at hl 0 rfl) ?_
        refine lv_iconst (v := 3) hx hb dX12_comes_43 (by decide) ?_
        refine lv_icmp_ge (tgt := 69) hx hb dX12_comes_44 (by decide) (fun c_40 => ?_) (fun c_40 => ?_)
        · exact absurd c_40 (by decide)
        · refine lv_aload_n hx hb dX12_comes_47 rfl (lv_at hl 2 rfl) ?_
          refine va_get (D := (dC, dI)) (ci := 12) (v := Value.ref m_setting) (C := RX12) (T := TX12) (N := 33) hx hb hts inX12 hown hK hP 0 rfl rfl 5 (by decide) (hts _ (gw kw_722 rfl)) (fun _ h9 => h9) rfl dX12_comes_48 ?_
          refine lv_iconst (v := 1) hx hb dX12_comes_51 (by decide) ?_
          refine lv_iload_n hx hb dX12_comes_52 rfl (lv_at hl 0 rfl) ?_
          refine lv_iadd hx hb dX12_comes_53 ?_
          refine lv_topi (fun x_41 e_41 => ?_)
          have h9 : x_41 = 2 := by rw [e_41]; rfl
          subst h9
          refine lv_aload_n hx hb dX12_comes_54 rfl (lv_at hl 2 rfl) ?_
          refine va_get (D := (dC, dI)) (ci := 12) (v := Value.ref m_told) (C := RX12) (T := TX12) (N := 33) hx hb hts inX12 hown hK hP 0 rfl rfl 12 (by decide) (hts _ (gw kw_729 rfl)) (fun _ h9 => h9) rfl dX12_comes_55 ?_
          refine lv_iload_n hx hb dX12_comes_58 rfl (lv_at hl 1 rfl) ?_
          refine lv_iload_n hx hb dX12_comes_59 rfl (lv_at hl 0 rfl) ?_
          refine lv_iadd hx hb dX12_comes_60 ?_
          refine lv_topi (fun x_42 e_42 => ?_)
          have h9 : x_42 = nI (3 * scn Lt ee + 1) := by rw [e_42]; exact nI_add (3 * scn Lt ee) 1
          subst h9
          have h_43 : vp_in (nI (3 * scn Lt ee + 1)) 96 := vp_in_nI (by omega) (by omega)
          refine va_iald hx hb hK hP 6 0 rfl rfl h_43 dX12_comes_61 ?_
          refine lv_topi (fun x_44 e_44 => ?_)
          have h9 : x_44 = nI (Lt (lst Lt ee + 2) - 48) := by rw [e_44, nI_clamp (by omega)]; exact htd 1 (by omega)
          subst h9
          have h_45 : vp_in 2 5 := by unfold vp_in; decide
          refine va_iast hx hb hK hP hD hS 4 0 rfl rfl h_45 dX12_comes_62 (fun H locs hP hD hS => ?_)
          obtain ⟨f_46, e_f_46⟩ : ∃ y : Nat → Int32, y = upd f_38 (2 : Int32).toNatClampNeg (nI (Lt (lst Lt ee + 2) - 48)) := ⟨_, rfl⟩
          have hpd9 : PDx (dC, dI) classes A H [oX12 g0 m_refused m_kind m_figure m_weight m_got m_setting (nI (n + cm Lt ee)) (nI sn) dn m_tape m_letter m_letterAt m_told tp mat stm m_kept him ki crs m_price m_offer m_gets m_yes m_buys m_ends m_carried m_row rm m_keptRow m_likeGets m_likePrice m_ahead, cI aC m_kind 9 kf, cI aC m_figure 9 ff, cI aC m_weight 9 wf, cI aC m_setting 5 f_46, cI aC m_letter 32 lf, cI aC m_told 96 tdf] := by rw [e_f_46]; exact ⟨hP, hD⟩
          have hP := hpd9.1
          have hD := hpd9.2
          clear hpd9
          obtain ⟨x_47, e_47⟩ : ∃ y : Int32, y = 1 + 1 := ⟨_, rfl⟩
          refine lv_iinc (v := x_47) (lv' := [(3, Value.int x_47), (2, Value.int (nI (3 * scn Lt ee))), (0, Value.ref g0), (1, Value.int (nI (scn Lt ee)))]) hx hb dX12_comes_63 hl (k := 0) rfl (by rw [e_47]; rfl) (by decide) rfl (fun ls hl => ?_)
          have h9 : x_47 = 2 := by rw [e_47]; rfl
          subst h9
          refine lv_goto (tgt := 42) hx hb dX12_comes_66 (by decide) ?_
          refine lv_iload_n hx hb dX12_comes_42 rfl (lv_at hl 0 rfl) ?_
          refine lv_iconst (v := 3) hx hb dX12_comes_43 (by decide) ?_
          refine lv_icmp_ge (tgt := 69) hx hb dX12_comes_44 (by decide) (fun c_48 => ?_) (fun c_48 => ?_)
          · exact absurd c_48 (by decide)
          · refine lv_aload_n hx hb dX12_comes_47 rfl (lv_at hl 2 rfl) ?_
            refine va_get (D := (dC, dI)) (ci := 12) (v := Value.ref m_setting) (C := RX12) (T := TX12) (N := 33) hx hb hts inX12 hown hK hP 0 rfl rfl 5 (by decide) (hts _ (gw kw_722 rfl)) (fun _ h9 => h9) rfl dX12_comes_48 ?_
            refine lv_iconst (v := 1) hx hb dX12_comes_51 (by decide) ?_
            refine lv_iload_n hx hb dX12_comes_52 rfl (lv_at hl 0 rfl) ?_
            refine lv_iadd hx hb dX12_comes_53 ?_
            refine lv_topi (fun x_49 e_49 => ?_)
            have h9 : x_49 = 3 := by rw [e_49]; rfl
            subst h9
            refine lv_aload_n hx hb dX12_comes_54 rfl (lv_at hl 2 rfl) ?_
            refine va_get (D := (dC, dI)) (ci := 12) (v := Value.ref m_told) (C := RX12) (T := TX12) (N := 33) hx hb hts inX12 hown hK hP 0 rfl rfl 12 (by decide) (hts _ (gw kw_729 rfl)) (fun _ h9 => h9) rfl dX12_comes_55 ?_
            refine lv_iload_n hx hb dX12_comes_58 rfl (lv_at hl 1 rfl) ?_
            refine lv_iload_n hx hb dX12_comes_59 rfl (lv_at hl 0 rfl) ?_
            refine lv_iadd hx hb dX12_comes_60 ?_
            refine lv_topi (fun x_50 e_50 => ?_)
            have h9 : x_50 = nI (3 * scn Lt ee + 2) := by rw [e_50]; exact nI_add (3 * scn Lt ee) 2
            subst h9
            have h_51 : vp_in (nI (3 * scn Lt ee + 2)) 96 := vp_in_nI (by omega) (by omega)
            refine va_iald hx hb hK hP 6 0 rfl rfl h_51 dX12_comes_61 ?_
            refine lv_topi (fun x_52 e_52 => ?_)
            have h9 : x_52 = nI (Lt (lst Lt ee + 3) - 48) := by rw [e_52, nI_clamp (by omega)]; exact htd 2 (by omega)
            subst h9
            have h_53 : vp_in 3 5 := by unfold vp_in; decide
            refine va_iast hx hb hK hP hD hS 4 0 rfl rfl h_53 dX12_comes_62 (fun H locs hP hD hS => ?_)
            obtain ⟨f_54, e_f_54⟩ : ∃ y : Nat → Int32, y = upd f_46 (3 : Int32).toNatClampNeg (nI (Lt (lst Lt ee + 3) - 48)) := ⟨_, rfl⟩
            have hpd9 : PDx (dC, dI) classes A H [oX12 g0 m_refused m_kind m_figure m_weight m_got m_setting (nI (n + cm Lt ee)) (nI sn) dn m_tape m_letter m_letterAt m_told tp mat stm m_kept him ki crs m_price m_offer m_gets m_yes m_buys m_ends m_carried m_row rm m_keptRow m_likeGets m_likePrice m_ahead, cI aC m_kind 9 kf, cI aC m_figure 9 ff, cI aC m_weight 9 wf, cI aC m_setting 5 f_54, cI aC m_letter 32 lf, cI aC m_told 96 tdf] := by rw [e_f_54]; exact ⟨hP, hD⟩
            have hP := hpd9.1
            have hD := hpd9.2
            clear hpd9
            obtain ⟨x_55, e_55⟩ : ∃ y : Int32, y = 2 + 1 := ⟨_, rfl⟩
            refine lv_iinc (v := x_55) (lv' := [(3, Value.int x_55), (2, Value.int (nI (3 * scn Lt ee))), (0, Value.ref g0), (1, Value.int (nI (scn Lt ee)))]) hx hb dX12_comes_63 hl (k := 0) rfl (by rw [e_55]; rfl) (by decide) rfl (fun ls hl => ?_)
            have h9 : x_55 = 3 := by rw [e_55]; rfl
            subst h9
            refine lv_goto (tgt := 42) hx hb dX12_comes_66 (by decide) ?_
            refine lv_iload_n hx hb dX12_comes_42 rfl (lv_at hl 0 rfl) ?_
            refine lv_iconst (v := 3) hx hb dX12_comes_43 (by decide) ?_
            refine lv_icmp_ge (tgt := 69) hx hb dX12_comes_44 (by decide) (fun c_56 => ?_) (fun c_56 => ?_)
            · refine lv_aload_n hx hb dX12_comes_69 rfl (lv_at hl 2 rfl) ?_
              refine va_get (D := (dC, dI)) (ci := 12) (v := Value.ref m_told) (C := RX12) (T := TX12) (N := 33) hx hb hts inX12 hown hK hP 0 rfl rfl 12 (by decide) (hts _ (gw kw_729 rfl)) (fun _ h9 => h9) rfl dX12_comes_70 ?_
              refine lv_iload_n hx hb dX12_comes_73 rfl (lv_at hl 1 rfl) ?_
              have h_57 : vp_in (nI (3 * scn Lt ee)) 96 := vp_in_nI (by omega) (by omega)
              refine va_iald hx hb hK hP 6 0 rfl rfl h_57 dX12_comes_74 ?_
              refine lv_topi (fun x_58 e_58 => ?_)
              have h9 : x_58 = nI (Lt (lst Lt ee + 1) - 48) := by rw [e_58, nI_clamp (by omega)]; exact htd 0 (by omega)
              subst h9
              refine lv_iconst (v := 3) hx hb dX12_comes_75 (by decide) ?_
              refine lv_icmp_ge (tgt := 107) hx hb dX12_comes_76 (by decide) (fun c_59 => ?_) (fun c_59 => ?_)
              · refine lv_iconst (v := 0) hx hb dX12_comes_107 (by decide) ?_
                have hpd9 := pd_N (cx := [oX12 g0 m_refused m_kind m_figure m_weight m_got m_setting (nI (n + cm Lt ee)) (nI sn) dn m_tape m_letter m_letterAt m_told tp mat stm m_kept him ki crs m_price m_offer m_gets m_yes m_buys m_ends m_carried m_row rm m_keptRow m_likeGets m_likePrice m_ahead, cI aC m_kind 9 kf, cI aC m_figure 9 ff, cI aC m_weight 9 wf, cI aC m_setting 5 f_54, cI aC m_letter 32 lf, cI aC m_told 96 tdf]) hP hD [0, 1, 2, 3, 4, 5, 6] (by decide) rfl
                have hP9 := hpd9.1
                have hD9 := hpd9.2
                refine W.widen (k := 0) (n := 0) (by omega) (by omega) ?_
                exact W.zret (v := 0) hx hb hr rfl (fun t ht hW => ⟨⟨0, ((nI (n + cm Lt ee)), kf, ff, wf, f_54), rfl, ⟨fun _ => rg_n2 hm8 (fun z => (lt_of9 (b := 2) (rfl : nI (Lt (lst Lt ee + 1) - 48) = _) (dig255 hd1) (by omega)).1 c_59 z.1), fun q => absurd rfl q⟩, by rw [ht]; exact hP9, va_K.moved hW.alike hK, hD9⟩, hS.F ht⟩) hS.2.2 dX12_comes_108
              · refine lv_aload_n hx hb dX12_comes_79 rfl (lv_at hl 2 rfl) ?_
                refine va_get (D := (dC, dI)) (ci := 12) (v := Value.ref m_told) (C := RX12) (T := TX12) (N := 33) hx hb hts inX12 hown hK hP 0 rfl rfl 12 (by decide) (hts _ (gw kw_729 rfl)) (fun _ h9 => h9) rfl dX12_comes_80 ?_
                refine lv_iload_n hx hb dX12_comes_83 rfl (lv_at hl 1 rfl) ?_
                refine lv_iconst (v := 1) hx hb dX12_comes_84 (by decide) ?_
                refine lv_iadd hx hb dX12_comes_85 ?_
                refine lv_topi (fun x_60 e_60 => ?_)
                have h9 : x_60 = nI (3 * scn Lt ee + 1) := by rw [e_60]; exact nI_add (3 * scn Lt ee) 1
                subst h9
                have h_61 : vp_in (nI (3 * scn Lt ee + 1)) 96 := vp_in_nI (by omega) (by omega)
                refine va_iald hx hb hK hP 6 0 rfl rfl h_61 dX12_comes_86 ?_
                refine lv_topi (fun x_62 e_62 => ?_)
                have h9 : x_62 = nI (Lt (lst Lt ee + 2) - 48) := by rw [e_62, nI_clamp (by omega)]; exact htd 1 (by omega)
                subst h9
                refine lv_iconst (v := 2) hx hb dX12_comes_87 (by decide) ?_
                refine lv_icmp_ge (tgt := 107) hx hb dX12_comes_88 (by decide) (fun c_63 => ?_) (fun c_63 => ?_)
                · refine lv_iconst (v := 0) hx hb dX12_comes_107 (by decide) ?_
                  have hpd9 := pd_N (cx := [oX12 g0 m_refused m_kind m_figure m_weight m_got m_setting (nI (n + cm Lt ee)) (nI sn) dn m_tape m_letter m_letterAt m_told tp mat stm m_kept him ki crs m_price m_offer m_gets m_yes m_buys m_ends m_carried m_row rm m_keptRow m_likeGets m_likePrice m_ahead, cI aC m_kind 9 kf, cI aC m_figure 9 ff, cI aC m_weight 9 wf, cI aC m_setting 5 f_54, cI aC m_letter 32 lf, cI aC m_told 96 tdf]) hP hD [0, 1, 2, 3, 4, 5, 6] (by decide) rfl
                  have hP9 := hpd9.1
                  have hD9 := hpd9.2
                  refine W.widen (k := 0) (n := 0) (by omega) (by omega) ?_
                  exact W.zret (v := 0) hx hb hr rfl (fun t ht hW => ⟨⟨0, ((nI (n + cm Lt ee)), kf, ff, wf, f_54), rfl, ⟨fun _ => rg_n2 hm8 (fun z => (lt_of9 (b := 1) (rfl : nI (Lt (lst Lt ee + 2) - 48) = _) (dig255 hd2) (by omega)).1 c_63 z.2.1), fun q => absurd rfl q⟩, by rw [ht]; exact hP9, va_K.moved hW.alike hK, hD9⟩, hS.F ht⟩) hS.2.2 dX12_comes_108
                · refine lv_aload_n hx hb dX12_comes_91 rfl (lv_at hl 2 rfl) ?_
                  refine va_get (D := (dC, dI)) (ci := 12) (v := Value.ref m_told) (C := RX12) (T := TX12) (N := 33) hx hb hts inX12 hown hK hP 0 rfl rfl 12 (by decide) (hts _ (gw kw_729 rfl)) (fun _ h9 => h9) rfl dX12_comes_92 ?_
                  refine lv_iload_n hx hb dX12_comes_95 rfl (lv_at hl 1 rfl) ?_
                  refine lv_iconst (v := 2) hx hb dX12_comes_96 (by decide) ?_
                  refine lv_iadd hx hb dX12_comes_97 ?_
                  refine lv_topi (fun x_64 e_64 => ?_)
                  have h9 : x_64 = nI (3 * scn Lt ee + 2) := by rw [e_64]; exact nI_add (3 * scn Lt ee) 2
                  subst h9
                  have h_65 : vp_in (nI (3 * scn Lt ee + 2)) 96 := vp_in_nI (by omega) (by omega)
                  refine va_iald hx hb hK hP 6 0 rfl rfl h_65 dX12_comes_98 ?_
                  refine lv_topi (fun x_66 e_66 => ?_)
                  have h9 : x_66 = nI (Lt (lst Lt ee + 3) - 48) := by rw [e_66, nI_clamp (by omega)]; exact htd 2 (by omega)
                  subst h9
                  refine lv_iconst (v := 2) hx hb dX12_comes_99 (by decide) ?_
                  refine lv_icmp_ge (tgt := 107) hx hb dX12_comes_100 (by decide) (fun c_67 => ?_) (fun c_67 => ?_)
                  · refine lv_iconst (v := 0) hx hb dX12_comes_107 (by decide) ?_
                    have hpd9 := pd_N (cx := [oX12 g0 m_refused m_kind m_figure m_weight m_got m_setting (nI (n + cm Lt ee)) (nI sn) dn m_tape m_letter m_letterAt m_told tp mat stm m_kept him ki crs m_price m_offer m_gets m_yes m_buys m_ends m_carried m_row rm m_keptRow m_likeGets m_likePrice m_ahead, cI aC m_kind 9 kf, cI aC m_figure 9 ff, cI aC m_weight 9 wf, cI aC m_setting 5 f_54, cI aC m_letter 32 lf, cI aC m_told 96 tdf]) hP hD [0, 1, 2, 3, 4, 5, 6] (by decide) rfl
                    have hP9 := hpd9.1
                    have hD9 := hpd9.2
                    refine W.widen (k := 0) (n := 0) (by omega) (by omega) ?_
                    exact W.zret (v := 0) hx hb hr rfl (fun t ht hW => ⟨⟨0, ((nI (n + cm Lt ee)), kf, ff, wf, f_54), rfl, ⟨fun _ => rg_n2 hm8 (fun z => (lt_of9 (b := 1) (rfl : nI (Lt (lst Lt ee + 3) - 48) = _) (dig255 hd3) (by omega)).1 c_67 z.2.2), fun q => absurd rfl q⟩, by rw [ht]; exact hP9, va_K.moved hW.alike hK, hD9⟩, hS.F ht⟩) hS.2.2 dX12_comes_108
                  · have hr9 : RGS Lt n dn ee := rg_y2 hm8 ⟨(lt_of9 (b := 2) (rfl : nI (Lt (lst Lt ee + 1) - 48) = _) (dig255 hd1) (by omega)).2 c_59, (lt_of9 (b := 1) (rfl : nI (Lt (lst Lt ee + 2) - 48) = _) (dig255 hd2) (by omega)).2 c_63, (lt_of9 (b := 1) (rfl : nI (Lt (lst Lt ee + 3) - 48) = _) (dig255 hd3) (by omega)).2 c_67⟩
                    have hsg9 : f_54 = upd (upd (upd stf 1 (nI (Lt (lst Lt ee + 1) - 48))) 2 (nI (Lt (lst Lt ee + 2) - 48))) 3 (nI (Lt (lst Lt ee + 3) - 48)) := by rw [e_f_54, e_f_46, e_f_38]; rfl
                    refine lv_iconst (v := 1) hx hb dX12_comes_103 (by decide) ?_
                    refine lv_goto (tgt := 108) hx hb dX12_comes_104 (by decide) ?_
                    have hpd9 := pd_N (cx := [oX12 g0 m_refused m_kind m_figure m_weight m_got m_setting (nI (n + cm Lt ee)) (nI sn) dn m_tape m_letter m_letterAt m_told tp mat stm m_kept him ki crs m_price m_offer m_gets m_yes m_buys m_ends m_carried m_row rm m_keptRow m_likeGets m_likePrice m_ahead, cI aC m_kind 9 kf, cI aC m_figure 9 ff, cI aC m_weight 9 wf, cI aC m_setting 5 f_54, cI aC m_letter 32 lf, cI aC m_told 96 tdf]) hP hD [0, 1, 2, 3, 4, 5, 6] (by decide) rfl
                    have hP9 := hpd9.1
                    have hD9 := hpd9.2
                    refine W.widen (k := 0) (n := 0) (by omega) (by omega) ?_
                    exact W.zret (v := 1) hx hb hr rfl (fun t ht hW => ⟨⟨1, ((nI (n + cm Lt ee)), kf, ff, wf, f_54), rfl, ⟨fun q => absurd q (by decide), fun _ => ⟨hr9, by rw [cm_no (by omega)], EVT_l hev hsem hm8 hr9 hsg9⟩⟩, by rw [ht]; exact hP9, va_K.moved hW.alike hK, hD9⟩, hS.F ht⟩) hS.2.2 dX12_comes_108
            · exact absurd (by decide) c_56
  · have hmc : Lt (lst Lt ee) = 99 := (nI_b0 (k := 99) hsl (by omega)).mp c_4
    refine lv_aload_n hx hb dX12_comes_15 rfl (lv_at hl 1 rfl) ?_
    refine va_get (D := (dC, dI)) (ci := 12) (v := Value.ref m_setting) (C := RX12) (T := TX12) (N := 33) hx hb hts inX12 hown hK hP 0 rfl rfl 5 (by decide) (hts _ (gw kw_722 rfl)) (fun _ h9 => h9) rfl dX12_comes_16 ?_
    refine lv_iconst (v := 0) hx hb dX12_comes_19 (by decide) ?_
    refine lv_aload_n hx hb dX12_comes_20 rfl (lv_at hl 1 rfl) ?_
    refine va_get (D := (dC, dI)) (ci := 12) (v := Value.ref m_told) (C := RX12) (T := TX12) (N := 33) hx hb hts inX12 hown hK hP 0 rfl rfl 12 (by decide) (hts _ (gw kw_729 rfl)) (fun _ h9 => h9) rfl dX12_comes_21 ?_
    refine lv_iload_n hx hb dX12_comes_24 rfl (lv_at hl 0 rfl) ?_
    have h_68 : vp_in (nI (3 * scn Lt ee)) 96 := vp_in_nI (by omega) (by omega)
    refine va_iald hx hb hK hP 6 0 rfl rfl h_68 dX12_comes_25 ?_
    refine lv_topi (fun x_69 e_69 => ?_)
    have h9 : x_69 = nI (lC Lt (lst Lt ee) ee) := by rw [e_69, nI_clamp (by omega)]; exact htl.2 hmc
    subst h9
    have h_70 : vp_in 0 5 := by unfold vp_in; decide
    refine va_iast hx hb hK hP hD hS 4 0 rfl rfl h_70 dX12_comes_26 (fun H locs hP hD hS => ?_)
    obtain ⟨f_71, e_f_71⟩ : ∃ y : Nat → Int32, y = upd stf (0 : Int32).toNatClampNeg (nI (lC Lt (lst Lt ee) ee)) := ⟨_, rfl⟩
    have hpd9 : PDx (dC, dI) classes A H [oX12 g0 m_refused m_kind m_figure m_weight m_got m_setting (nI (n + cm Lt ee)) (nI sn) dn m_tape m_letter m_letterAt m_told tp mat stm m_kept him ki crs m_price m_offer m_gets m_yes m_buys m_ends m_carried m_row rm m_keptRow m_likeGets m_likePrice m_ahead, cI aC m_kind 9 kf, cI aC m_figure 9 ff, cI aC m_weight 9 wf, cI aC m_setting 5 f_71, cI aC m_letter 32 lf, cI aC m_told 96 tdf] := by rw [e_f_71]; exact ⟨hP, hD⟩
    have hP := hpd9.1
    have hD := hpd9.2
    clear hpd9
    refine lv_iconst (v := 1) hx hb dX12_comes_27 (by decide) ?_
    have hpd9 := pd_N (cx := [oX12 g0 m_refused m_kind m_figure m_weight m_got m_setting (nI (n + cm Lt ee)) (nI sn) dn m_tape m_letter m_letterAt m_told tp mat stm m_kept him ki crs m_price m_offer m_gets m_yes m_buys m_ends m_carried m_row rm m_keptRow m_likeGets m_likePrice m_ahead, cI aC m_kind 9 kf, cI aC m_figure 9 ff, cI aC m_weight 9 wf, cI aC m_setting 5 f_71, cI aC m_letter 32 lf, cI aC m_told 96 tdf]) hP hD [0, 1, 2, 3, 4, 5, 6] (by decide) rfl
    have hP9 := hpd9.1
    have hD9 := hpd9.2
    refine W.widen (k := 0) (n := 0) (by omega) (by omega) ?_
    exact W.zret (v := 1) hx hb hr rfl (fun t ht hW => ⟨⟨1, ((nI (n + cm Lt ee)), kf, ff, wf, f_71), rfl, ⟨fun q => absurd q (by decide), fun _ => ⟨rg_y3 (by omega) (by omega), by rw [cm_no (by omega)], EVT_c hev hsem hmc hst (by rw [e_f_71]; rfl)⟩⟩, by rw [ht]; exact hP9, va_K.moved hW.alike hK, hD9⟩, hS.F ht⟩) hS.2.2 dX12_comes_28

set_option maxHeartbeats 1000000 in
set_option maxRecDepth 100000 in
/-- X12_feed -/
theorem c_X12_feed (l : Launch) (dC : Nat → ClassId) (dI : Nat → Nat → Nat) (aC : Nat → ClassId) (sz : Nat) (g0 : Nat) (m_refused : Nat) (m_kind : Nat) (m_figure : Nat) (m_weight : Nat) (m_got : Nat) (m_setting : Nat) (m_tape : Nat) (m_letter : Nat) (m_letterAt : Nat) (m_told : Nat) (m_kept : Nat) (m_price : Nat) (m_offer : Nat) (m_gets : Nat) (m_yes : Nat) (m_buys : Nat) (m_ends : Nat) (m_carried : Nat) (m_row : Nat) (m_keptRow : Nat) (m_likeGets : Nat) (m_likePrice : Nat) (m_ahead : Nat) (men : Int32) (msy : Int32) (mdn : Int32) (mat : Int32) (stm : Int32) (him : Int32) (ki : Int32) (crs : Int32) (rm : Int32) (lz : Nat) (Lt : Nat → Nat) (tpf : Nat → Int32) (mr : Nat → Int32) (v : Int32) (hlt0 : LTR lz Lt tpf) : Met l yX12_feed (wW yX12_feed cX12_feed 3 (some .int)) ({ frames := 1, cells := 0, slots := 0, locals := 22 } : Room) (va_Pc [Value.ref g0, Value.int v] (fun U => U.heap.size = sz ∧ va_P (dC, dI) classes [oX12 g0 m_refused m_kind m_figure m_weight m_got m_setting men msy mdn m_tape m_letter m_letterAt m_told (nI lz) mat stm m_kept him ki crs m_price m_offer m_gets m_yes m_buys m_ends m_carried m_row rm m_keptRow m_likeGets m_likePrice m_ahead, cI aC m_tape 64 tpf, cI aC m_refused 7 mr] U.heap ∧ va_K (dC, dI) classes (TY aC) U ∧ va_D (fun _ => True) [oX12 g0 m_refused m_kind m_figure m_weight m_got m_setting men msy mdn m_tape m_letter m_letterAt m_told (nI lz) mat stm m_kept him ki crs m_price m_offer m_gets m_yes m_buys m_ends m_carried m_row rm m_keptRow m_likeGets m_likePrice m_ahead, cI aC m_tape 64 tpf, cI aC m_refused 7 mr] ∧ NX U)) (va_Qi (fun (r : Int32) (u : Int32 × (Nat → Int32) × (Nat → Int32)) => match u with | (tz2, tp2, mr2) => r = feR lz v ∧ tz2 = nI (feZ lz v) ∧ LTR (feZ lz v) (feL Lt lz v) tp2) (fun (u : Int32 × (Nat → Int32) × (Nat → Int32)) (t : State) => match u with | (tz2, tp2, mr2) => va_P (dC, dI) classes [oX12 g0 m_refused m_kind m_figure m_weight m_got m_setting men msy mdn m_tape m_letter m_letterAt m_told tz2 mat stm m_kept him ki crs m_price m_offer m_gets m_yes m_buys m_ends m_carried m_row rm m_keptRow m_likeGets m_likePrice m_ahead, cI aC m_tape 64 tp2, cI aC m_refused 7 mr2] t.heap ∧ va_K (dC, dI) classes (TY aC) t ∧ va_D (va_A [oX12 g0 m_refused m_kind m_figure m_weight m_got m_setting men msy mdn m_tape m_letter m_letterAt m_told (nI lz) mat stm m_kept him ki crs m_price m_offer m_gets m_yes m_buys m_ends m_carried m_row rm m_keptRow m_likeGets m_likePrice m_ahead, cI aC m_tape 64 tpf, cI aC m_refused 7 mr] sz) [oX12 g0 m_refused m_kind m_figure m_weight m_got m_setting men msy mdn m_tape m_letter m_letterAt m_told tz2 mat stm m_kept him ki crs m_price m_offer m_gets m_yes m_buys m_ends m_carried m_row rm m_keptRow m_likeGets m_likePrice m_ahead, cI aC m_tape 64 tp2, cI aC m_refused 7 mr2]) (va_A [oX12 g0 m_refused m_kind m_figure m_weight m_got m_setting men msy mdn m_tape m_letter m_letterAt m_told (nI lz) mat stm m_kept him ki crs m_price m_offer m_gets m_yes m_buys m_ends m_carried m_row rm m_keptRow m_likeGets m_likePrice m_ahead, cI aC m_tape 64 tpf, cI aC m_refused 7 mr] sz)) 0 0 (va_A [oX12 g0 m_refused m_kind m_figure m_weight m_got m_setting men msy mdn m_tape m_letter m_letterAt m_told (nI lz) mat stm m_kept him ki crs m_price m_offer m_gets m_yes m_buys m_ends m_carried m_row rm m_keptRow m_likeGets m_likePrice m_ahead, cI aC m_tape 64 tpf, cI aC m_refused 7 mr] sz) := by
  refine Met.ofW (cc := cX12_feed) (maxL := 3) (ret := (some .int)) (by decide) rfl ?_
  intro p e s m args below meth c s₁ B hml hv
  obtain ⟨rfl, hsz, hP, hK, hD0, hN⟩ := hv
  have hx := B.exec
  have hb := B.bytes
  have hr := B.returns
  have hts0 := atoms_spec (ws := (wW yX12_feed cX12_feed 3 (some .int))) B.pre
  have hts : ∀ w9 ∈ lw_G, w9.before ([Value.ref g0, Value.int v] : List Value).toArray s = true := fun w9 h9 => hts0 w9 (List.mem_cons_of_mem _ h9)
  have hown : s.vm.findClass RX12 = some m.cls := findClass_of_methodNamed (x := yX12_feed) B.named
  have hlocks := B.notSynchronized
  subst hsz
  have hD := hD0.self (sz := s.heap.size)
  generalize hAe : va_A [oX12 g0 m_refused m_kind m_figure m_weight m_got m_setting men msy mdn m_tape m_letter m_letterAt m_told (nI lz) mat stm m_kept him ki crs m_price m_offer m_gets m_yes m_buys m_ends m_carried m_row rm m_keptRow m_likeGets m_likePrice m_ahead, cI aC m_tape 64 tpf, cI aC m_refused 7 mr] s.heap.size = A at hD ⊢
  have hA : ∀ q : Nat, s.heap.size ≤ q → A q := fun q h => by rw [← hAe]; exact Or.inr h
  obtain ⟨H, hHe⟩ : ∃ H : Heap, H = s.heap := ⟨_, rfl⟩
  have hS : va_S A s.heap H [] := by rw [hHe]; exact va_S.rf
  have hP : va_P (dC, dI) classes [oX12 g0 m_refused m_kind m_figure m_weight m_got m_setting men msy mdn m_tape m_letter m_letterAt m_told (nI lz) mat stm m_kept him ki crs m_price m_offer m_gets m_yes m_buys m_ends m_carried m_row rm m_keptRow m_likeGets m_likePrice m_ahead, cI aC m_tape 64 tpf, cI aC m_refused 7 mr] H := by rw [hHe]; exact hP
  have hl := lv_entry ([Value.ref g0, Value.int v]) (n := 3) (Nat.le_of_ble_eq_true rfl)
  rw [lg_entry_eq]
  generalize (lg_sl ([Value.ref g0, Value.int v]) ++ List.replicate (3 - (lg_sl ([Value.ref g0, Value.int v])).length) Slot.unset).toArray = ls at hl ⊢
  have hl : lv_has ls 3 [(0, Value.ref g0), (1, Value.int v)] := hl
  rw [← hHe]
  have hz6 := hlt0.1
  refine lv_iload_n hx hb dX12_feed_0 rfl (lv_at hl 1 rfl) ?_
  refine lv_iconst (v := 0) hx hb dX12_feed_1 (by decide) ?_
  refine lv_sipush (v := 255) hx hb dX12_feed_2 (by decide) ?_
  have hpd9 := pdf_N (cx := []) hP hD hS hA [] (by decide) rfl
  have hPc := hpd9.1
  have hDc := hpd9.2.1
  have hFc := hpd9.2.2
  clear hpd9
  refine va_calli (va_runS (As := [Value.int v, Value.int 0, Value.int 255]) (rest := []) ⟨hx, hb, hml, hown, hts⟩ (c_X12_bound l dC dI aC H.size v 0 255 ) ⟨(callB_of 3 hts (gG kw_823) rfl rfl rfl (hts _ (gw kw_13 rfl)) (hts _ (gw kw_821 rfl)) hd_X12_bound ⟨Nat.le_of_ble_eq_true rfl, Nat.le_of_ble_eq_true rfl⟩), (hts _ (gw kw_822 rfl))⟩ ⟨fb_std, pre_std hPc hK hDc hN⟩ rfl rfl hl.1 rfl (lv_room (Nat.le_of_ble_eq_true rfl)) dX12_feed_5 ⟨Nat.le_of_ble_eq_true rfl, Nat.le_of_ble_eq_true rfl⟩) hS (fun q _ h => hFc q h) hFc (fun x_1 u9 t9 H1 locs ht hvm hw_1 hB hz1 hk1 hS => ?_)
  obtain ⟨hP1, hK1, hD1⟩ := hB
  rw [ht] at hP1
  clear hK1
  try dsimp only at hw_1
  have hpd9 : PDx (dC, dI) classes A H1 [oX12 g0 m_refused m_kind m_figure m_weight m_got m_setting men msy mdn m_tape m_letter m_letterAt m_told (nI lz) mat stm m_kept him ki crs m_price m_offer m_gets m_yes m_buys m_ends m_carried m_row rm m_keptRow m_likeGets m_likePrice m_ahead, cI aC m_tape 64 tpf, cI aC m_refused 7 mr] := jn_N (wr := [oX12 g0 m_refused m_kind m_figure m_weight m_got m_setting men msy mdn m_tape m_letter m_letterAt m_told (nI lz) mat stm m_kept him ki crs m_price m_offer m_gets m_yes m_buys m_ends m_carried m_row rm m_keptRow m_likeGets m_likePrice m_ahead, cI aC m_tape 64 tpf, cI aC m_refused 7 mr]) hFc hk1 hP1 hD1 hP hD [] [0, 1, 2] rfl rfl (by decide) (by decide)
  have hP := hpd9.1
  have hD := hpd9.2
  clear hpd9
  generalize H1 = H at hP hS ⊢
  clear hPc hDc hFc hz1 hk1 hP1 hD1 ht hvm
  have hz_5 := hw_1
  refine lv_istore_n (lv' := [(2, Value.int x_1), (0, Value.ref g0), (1, Value.int v)]) hx hb dX12_feed_8 rfl hl (by decide) rfl (fun ls hl => ?_)
  refine lv_iload_n hx hb dX12_feed_9 rfl (lv_at hl 0 rfl) ?_
  refine lv_if_ne (tgt := 25) hx hb dX12_feed_10 (by decide) (fun c_2 => ?_) (fun c_2 => ?_)
  · refine lv_iload_n hx hb dX12_feed_25 rfl (lv_at hl 0 rfl) ?_
    refine lv_if_eq (tgt := 35) hx hb dX12_feed_26 (by decide) (fun c_3 => ?_) (fun c_3 => ?_)
    · exact absurd c_3 c_2
    · refine lv_aload_n hx hb dX12_feed_29 rfl (lv_at hl 1 rfl) ?_
      refine lv_iload_n hx hb dX12_feed_30 rfl (lv_at hl 0 rfl) ?_
      have hpd9 := pdf_N (cx := [oX12 g0 m_refused m_kind m_figure m_weight m_got m_setting men msy mdn m_tape m_letter m_letterAt m_told (nI lz) mat stm m_kept him ki crs m_price m_offer m_gets m_yes m_buys m_ends m_carried m_row rm m_keptRow m_likeGets m_likePrice m_ahead, cI aC m_refused 7 mr]) hP hD hS hA [0, 2] (by decide) rfl
      have hPc := hpd9.1
      have hDc := hpd9.2.1
      have hFc := hpd9.2.2
      clear hpd9
      refine va_calli (va_runV (As := [Value.int x_1]) (rest := []) ⟨hx, hb, hml, hown, hts⟩ (c_X12_no l dC dI aC H.size g0 m_refused m_kind m_figure m_weight m_got m_setting m_tape m_letter m_letterAt m_told m_kept m_price m_offer m_gets m_yes m_buys m_ends m_carried m_row m_keptRow m_likeGets m_likePrice m_ahead men msy mdn (nI lz) mat stm him ki crs rm x_1 ((-(x_1) : Int32).toNatClampNeg) mr (rfl) (by rcases bnd_n hz_5 c_2 with ⟨q1, q2⟩ | ⟨q1, q2, q3⟩ <;> first | (rw [q2]; unfold vp_in; decide) | (rw [q3]; unfold vp_in; decide))) ⟨(callB_of 1 hts (gG kw_827) rfl rfl rfl (hts _ (gw kw_13 rfl)) (hts _ (gw kw_824 rfl)) hd_X12_no ⟨Nat.le_of_ble_eq_true rfl, Nat.le_of_ble_eq_true rfl⟩), (hts _ (gw kw_826 rfl)), (hts _ (gw ks_35 rfl))⟩ ⟨fb_std, va_recv (q := (RX12, TX12, 33)) hK hPc (ci := 12) (q0 := 0) rfl rfl, pre_std hPc hK hDc hN⟩ rfl rfl hl.1 rfl (lv_room (Nat.le_of_ble_eq_true rfl)) dX12_feed_31 ⟨Nat.le_of_ble_eq_true rfl, Nat.le_of_ble_eq_true rfl⟩) hS (fun q _ h => hFc q h) hFc (fun x_4 u9 t9 H1 locs ht hvm hw_4 hB hz1 hk1 hS => ?_)
      obtain ⟨u_5, rfl⟩ : ∃ z, z = u9 := ⟨_, rfl⟩
      obtain ⟨hP1, hK1, hD1⟩ := hB
      rw [ht] at hP1
      clear hK1
      try dsimp only at hw_4
      have hpd9 : PDx (dC, dI) classes A H1 [cI aC m_tape 64 tpf, oX12 g0 m_refused m_kind m_figure m_weight m_got m_setting men msy mdn m_tape m_letter m_letterAt m_told (nI lz) mat stm m_kept him ki crs m_price m_offer m_gets m_yes m_buys m_ends m_carried m_row rm m_keptRow m_likeGets m_likePrice m_ahead, cI aC m_refused 7 u_5] := jn_N (wr := [cI aC m_tape 64 tpf]) hFc hk1 hP1 hD1 hP hD [0, 2] [1] rfl rfl (by decide) (by decide)
      have hP := hpd9.1
      have hD := hpd9.2
      clear hpd9
      generalize H1 = H at hP hS ⊢
      clear hPc hDc hFc hz1 hk1 hP1 hD1 ht hvm
      obtain ⟨hv9, -⟩ := hw_4
      have hpd9 := pd_N (cx := [oX12 g0 m_refused m_kind m_figure m_weight m_got m_setting men msy mdn m_tape m_letter m_letterAt m_told (nI lz) mat stm m_kept him ki crs m_price m_offer m_gets m_yes m_buys m_ends m_carried m_row rm m_keptRow m_likeGets m_likePrice m_ahead, cI aC m_tape 64 tpf, cI aC m_refused 7 u_5]) hP hD [1, 0, 2] (by decide) rfl
      have hP9 := hpd9.1
      have hD9 := hpd9.2
      refine W.widen (k := 0) (n := 0) (by omega) (by omega) ?_
      exact W.iret (v := x_4) hx hb hr (fun t ht hW => ⟨⟨x_4, ((nI lz), tpf, u_5), rfl, by rcases bnd_n hz_5 c_2 with ⟨q1, q2⟩ | ⟨q1, q2, q3⟩ <;> first | exact ⟨by rw [hv9, q2]; unfold feR; rw [if_pos q1], by rw [(LTR_no (v := v) hlt0 (fun q => q.1 q1)).1], (LTR_no hlt0 (fun q => q.1 q1)).2⟩ | exact ⟨by rw [hv9, q3]; unfold feR; rw [if_neg q1, if_pos q2], by rw [(LTR_no (v := v) hlt0 (fun q => q.2.1 q2)).1], (LTR_no hlt0 (fun q => q.2.1 q2)).2⟩, by rw [ht]; exact hP9, va_K.moved hW.alike hK, hD9⟩, hS.F ht⟩) hS.2.2 dX12_feed_34
  · refine lv_aload_n hx hb dX12_feed_13 rfl (lv_at hl 1 rfl) ?_
    refine va_get (D := (dC, dI)) (ci := 12) (v := Value.int (nI lz)) (C := RX12) (T := TX12) (N := 33) hx hb hts inX12 hown hK hP 0 rfl rfl 13 (by decide) (hts _ (gw kw_730 rfl)) (fun _ h9 => h9) rfl dX12_feed_14 ?_
    refine lv_bipush (v := 64) hx hb dX12_feed_17 (by decide) ?_
    refine lv_icmp_ne (tgt := 25) hx hb dX12_feed_19 (by decide) (fun c_6 => ?_) (fun c_6 => ?_)
    · refine lv_iload_n hx hb dX12_feed_25 rfl (lv_at hl 0 rfl) ?_
      refine lv_if_eq (tgt := 35) hx hb dX12_feed_26 (by decide) (fun c_7 => ?_) (fun c_7 => ?_)
      · have hb9 := bnd_0 hz_5 c_2
        have hfa : feA lz v := ⟨hb9.1, hb9.2, by have : lz ≠ 64 := fun q => c_6 (by rw [q]; rfl); have := hlt0.1; omega⟩
        refine lv_aload_n hx hb dX12_feed_35 rfl (lv_at hl 1 rfl) ?_
        refine va_get (D := (dC, dI)) (ci := 12) (v := Value.ref m_tape) (C := RX12) (T := TX12) (N := 33) hx hb hts inX12 hown hK hP 0 rfl rfl 9 (by decide) (hts _ (gw kw_726 rfl)) (fun _ h9 => h9) rfl dX12_feed_36 ?_
        refine lv_aload_n hx hb dX12_feed_39 rfl (lv_at hl 1 rfl) ?_
        refine va_get (D := (dC, dI)) (ci := 12) (v := Value.int (nI lz)) (C := RX12) (T := TX12) (N := 33) hx hb hts inX12 hown hK hP 0 rfl rfl 13 (by decide) (hts _ (gw kw_730 rfl)) (fun _ h9 => h9) rfl dX12_feed_40 ?_
        refine lv_iload_n hx hb dX12_feed_43 rfl (lv_at hl 2 rfl) ?_
        have h_8 : vp_in (nI lz) 64 := vp_in_nI (by have := hfa.2.2; omega) (by omega)
        refine va_iast hx hb hK hP hD hS 1 0 rfl rfl h_8 dX12_feed_44 (fun H locs hP hD hS => ?_)
        obtain ⟨f_9, e_f_9⟩ : ∃ y : Nat → Int32, y = upd tpf (nI lz : Int32).toNatClampNeg v := ⟨_, rfl⟩
        have hpd9 : PDx (dC, dI) classes A H [oX12 g0 m_refused m_kind m_figure m_weight m_got m_setting men msy mdn m_tape m_letter m_letterAt m_told (nI lz) mat stm m_kept him ki crs m_price m_offer m_gets m_yes m_buys m_ends m_carried m_row rm m_keptRow m_likeGets m_likePrice m_ahead, cI aC m_tape 64 f_9, cI aC m_refused 7 mr] := by rw [e_f_9]; exact ⟨hP, hD⟩
        have hP := hpd9.1
        have hD := hpd9.2
        clear hpd9
        refine lv_aload_n hx hb dX12_feed_45 rfl (lv_at hl 1 rfl) ?_
        refine lv_dup hx hb dX12_feed_46 rfl ?_
        refine va_get (D := (dC, dI)) (ci := 12) (v := Value.int (nI lz)) (C := RX12) (T := TX12) (N := 33) hx hb hts inX12 hown hK hP 0 rfl rfl 13 (by decide) (hts _ (gw kw_730 rfl)) (fun _ h9 => h9) rfl dX12_feed_47 ?_
        refine lv_iconst (v := 1) hx hb dX12_feed_50 (by decide) ?_
        refine lv_iadd hx hb dX12_feed_51 ?_
        refine lv_topi (fun x_10 e_10 => ?_)
        refine va_put (D := (dC, dI)) (ci := 12) (v := Value.int x_10) (ty := .int) (C := RX12) (T := TX12) (N := 33) hx hb hts inX12 tyX12 tyX12_ok nmX12 hown hK hP hD hS 0 rfl rfl 13 (by decide) (hts _ (gw kw_730 rfl)) (fun _ h9 => h9) rfl (by decide +kernel) rfl rfl (Nat.le_of_ble_eq_true rfl) dX12_feed_52 (fun H locs hP hD hS => ?_)
        have hpd9 : PDx (dC, dI) classes A H [oX12 g0 m_refused m_kind m_figure m_weight m_got m_setting men msy mdn m_tape m_letter m_letterAt m_told x_10 mat stm m_kept him ki crs m_price m_offer m_gets m_yes m_buys m_ends m_carried m_row rm m_keptRow m_likeGets m_likePrice m_ahead, cI aC m_tape 64 f_9, cI aC m_refused 7 mr] := ⟨hP, hD⟩
        have hP := hpd9.1
        have hD := hpd9.2
        clear hpd9
        have h9 : x_10 = nI (lz + 1) := by rw [e_10, nI_1]
        subst h9
        refine lv_aload_n hx hb dX12_feed_55 rfl (lv_at hl 1 rfl) ?_
        refine va_get (D := (dC, dI)) (ci := 12) (v := Value.int (nI (lz + 1))) (C := RX12) (T := TX12) (N := 33) hx hb hts inX12 hown hK hP 0 rfl rfl 13 (by decide) (hts _ (gw kw_730 rfl)) (fun _ h9 => h9) rfl dX12_feed_56 ?_
        have hpd9 := pd_N (cx := [oX12 g0 m_refused m_kind m_figure m_weight m_got m_setting men msy mdn m_tape m_letter m_letterAt m_told (nI (lz + 1)) mat stm m_kept him ki crs m_price m_offer m_gets m_yes m_buys m_ends m_carried m_row rm m_keptRow m_likeGets m_likePrice m_ahead, cI aC m_tape 64 f_9, cI aC m_refused 7 mr]) hP hD [0, 1, 2] (by decide) rfl
        have hP9 := hpd9.1
        have hD9 := hpd9.2
        refine W.widen (k := 0) (n := 0) (by omega) (by omega) ?_
        exact W.iret (v := nI (lz + 1)) hx hb hr (fun t ht hW => ⟨⟨(nI (lz + 1)), ((nI (lz + 1)), f_9, mr), rfl, ⟨by rw [(LTR_y (L := Lt) hlt0 hfa rfl).2.2], by rw [(LTR_y (L := Lt) hlt0 hfa rfl).1], (LTR_y hlt0 hfa (by rw [e_f_9, nI_clamp (by omega)])).2.1⟩, by rw [ht]; exact hP9, va_K.moved hW.alike hK, hD9⟩, hS.F ht⟩) hS.2.2 dX12_feed_59
      · exact absurd c_2 c_7
    · refine lv_bipush (v := -6) hx hb dX12_feed_22 (by decide) ?_
      refine lv_istore_n (lv' := [(2, Value.int (-6)), (0, Value.ref g0), (1, Value.int v)]) hx hb dX12_feed_24 rfl hl (by decide) rfl (fun ls hl => ?_)
      refine lv_iload_n hx hb dX12_feed_25 rfl (lv_at hl 0 rfl) ?_
      refine lv_if_eq (tgt := 35) hx hb dX12_feed_26 (by decide) (fun c_11 => ?_) (fun c_11 => ?_)
      · exact absurd c_11 (by decide)
      · refine lv_aload_n hx hb dX12_feed_29 rfl (lv_at hl 1 rfl) ?_
        refine lv_iload_n hx hb dX12_feed_30 rfl (lv_at hl 0 rfl) ?_
        have hpd9 := pdf_N (cx := [oX12 g0 m_refused m_kind m_figure m_weight m_got m_setting men msy mdn m_tape m_letter m_letterAt m_told (nI lz) mat stm m_kept him ki crs m_price m_offer m_gets m_yes m_buys m_ends m_carried m_row rm m_keptRow m_likeGets m_likePrice m_ahead, cI aC m_refused 7 mr]) hP hD hS hA [0, 2] (by decide) rfl
        have hPc := hpd9.1
        have hDc := hpd9.2.1
        have hFc := hpd9.2.2
        clear hpd9
        refine va_calli (va_runV (As := [Value.int (-6)]) (rest := []) ⟨hx, hb, hml, hown, hts⟩ (c_X12_no l dC dI aC H.size g0 m_refused m_kind m_figure m_weight m_got m_setting m_tape m_letter m_letterAt m_told m_kept m_price m_offer m_gets m_yes m_buys m_ends m_carried m_row m_keptRow m_likeGets m_likePrice m_ahead men msy mdn (nI lz) mat stm him ki crs rm (-6) ((-(-6) : Int32).toNatClampNeg) mr (rfl) (by unfold vp_in; decide)) ⟨(callB_of 1 hts (gG kw_827) rfl rfl rfl (hts _ (gw kw_13 rfl)) (hts _ (gw kw_824 rfl)) hd_X12_no ⟨Nat.le_of_ble_eq_true rfl, Nat.le_of_ble_eq_true rfl⟩), (hts _ (gw kw_826 rfl)), (hts _ (gw ks_35 rfl))⟩ ⟨fb_std, va_recv (q := (RX12, TX12, 33)) hK hPc (ci := 12) (q0 := 0) rfl rfl, pre_std hPc hK hDc hN⟩ rfl rfl hl.1 rfl (lv_room (Nat.le_of_ble_eq_true rfl)) dX12_feed_31 ⟨Nat.le_of_ble_eq_true rfl, Nat.le_of_ble_eq_true rfl⟩) hS (fun q _ h => hFc q h) hFc (fun x_12 u9 t9 H1 locs ht hvm hw_12 hB hz1 hk1 hS => ?_)
        obtain ⟨u_13, rfl⟩ : ∃ z, z = u9 := ⟨_, rfl⟩
        obtain ⟨hP1, hK1, hD1⟩ := hB
        rw [ht] at hP1
        clear hK1
        try dsimp only at hw_12
        have hpd9 : PDx (dC, dI) classes A H1 [cI aC m_tape 64 tpf, oX12 g0 m_refused m_kind m_figure m_weight m_got m_setting men msy mdn m_tape m_letter m_letterAt m_told (nI lz) mat stm m_kept him ki crs m_price m_offer m_gets m_yes m_buys m_ends m_carried m_row rm m_keptRow m_likeGets m_likePrice m_ahead, cI aC m_refused 7 u_13] := jn_N (wr := [cI aC m_tape 64 tpf]) hFc hk1 hP1 hD1 hP hD [0, 2] [1] rfl rfl (by decide) (by decide)
        have hP := hpd9.1
        have hD := hpd9.2
        clear hpd9
        generalize H1 = H at hP hS ⊢
        clear hPc hDc hFc hz1 hk1 hP1 hD1 ht hvm
        obtain ⟨hv9, -⟩ := hw_12
        have hpd9 := pd_N (cx := [oX12 g0 m_refused m_kind m_figure m_weight m_got m_setting men msy mdn m_tape m_letter m_letterAt m_told (nI lz) mat stm m_kept him ki crs m_price m_offer m_gets m_yes m_buys m_ends m_carried m_row rm m_keptRow m_likeGets m_likePrice m_ahead, cI aC m_tape 64 tpf, cI aC m_refused 7 u_13]) hP hD [1, 0, 2] (by decide) rfl
        have hP9 := hpd9.1
        have hD9 := hpd9.2
        refine W.widen (k := 0) (n := 0) (by omega) (by omega) ?_
        exact W.iret (v := x_12) hx hb hr (fun t ht hW => ⟨⟨x_12, ((nI lz), tpf, u_13), rfl, by have h64 : 64 ≤ lz := (by have := (nI_eq (a := lz) (b := 64) (by have := hlt0.1; omega) (by omega)).mp c_6; omega); exact ⟨by rw [hv9]; unfold feR; rw [if_neg (bnd_0 hz_5 c_2).1, if_neg (bnd_0 hz_5 c_2).2, if_pos h64], by rw [(LTR_no (v := v) hlt0 (fun q => absurd q.2.2 (by omega))).1], (LTR_no hlt0 (fun q => absurd q.2.2 (by omega))).2⟩, by rw [ht]; exact hP9, va_K.moved hW.alike hK, hD9⟩, hS.F ht⟩) hS.2.2 dX12_feed_34
