section
/-! 64.pass -/
theorem cpy_step {f g : Nat → Int32} {d k : Nat} : upd (va_cpy f g 0 d k) (d + k) (f k) = va_cpy f g 0 d (k + 1) := by
  funext j
  unfold upd va_cpy
  by_cases h : j = d + k
  · subst h
    rw [if_pos rfl, if_pos ⟨by omega, by omega⟩]
    congr 1
    omega
  · rw [if_neg h]
    by_cases h2 : d ≤ j ∧ j < d + k
    · rw [if_pos h2, if_pos ⟨h2.1, by omega⟩]
    · rw [if_neg h2, if_neg (fun q => h2 ⟨q.1, by omega⟩)]
theorem cpy_0 {f g : Nat → Int32} {d : Nat} : g = va_cpy f g 0 d 0 := by
  funext j
  unfold va_cpy
  rw [if_neg (fun q => by omega)]
theorem cpy_i {f g : Nat → Int32} {d k j : Nat} (h : j < k) : va_cpy f g 0 d k (d + j) = f j := by
  unfold va_cpy
  rw [if_pos ⟨by omega, by omega⟩]
  congr 1
  omega
theorem cpy_o {f g : Nat → Int32} {d k j : Nat} (h : j < d ∨ d + k ≤ j) : va_cpy f g 0 d k j = g j := by
  unfold va_cpy
  rw [if_neg (fun q => by omega)]
/-- an evening in the row of what is kept -/
def PK (b : Nat) (kp k f w p s : Nat → Int32) (n sn dn : Int32) : Prop :=
  (∀ j, j < 9 → kp (b + j) = k j) ∧ (∀ j, j < 9 → kp (b + 9 + j) = f j) ∧ (∀ j, j < 9 → kp (b + 18 + j) = w j) ∧ (∀ j, j < 8 → kp (b + 27 + j) = p j) ∧ (∀ j, j < 5 → kp (b + 35 + j) = s j) ∧ kp (b + 40) = n ∧ kp (b + 41) = sn ∧ kp (b + 42) = dn
theorem PK_of {b : Nat} {kp k1 k2 k3 k4 k5 k6 k7 k8 k f w p s : Nat → Int32} {n sn dn : Int32} (e1 : k1 = va_cpy k kp 0 b 9) (e2 : k2 = va_cpy f k1 0 (b + 9) 9) (e3 : k3 = va_cpy w k2 0 (b + 18) 9) (e4 : k4 = va_cpy p k3 0 (b + 27) 8) (e5 : k5 = va_cpy s k4 0 (b + 35) 5) (e6 : k6 = upd k5 (b + 40) n) (e7 : k7 = upd k6 (b + 41) sn) (e8 : k8 = upd k7 (b + 42) dn) : PK b k8 k f w p s n sn dn ∧ ∀ q, q < b ∨ b + 43 ≤ q → k8 q = kp q := by
  refine ⟨⟨fun j hj => ?_, fun j hj => ?_, fun j hj => ?_, fun j hj => ?_, fun j hj => ?_, ?_, ?_, ?_⟩, fun q hq => ?_⟩
  · rw [e8, pk_un (by omega), e7, pk_un (by omega), e6, pk_un (by omega), e5, cpy_o (by omega), e4, cpy_o (by omega), e3, cpy_o (by omega), e2, cpy_o (by omega), e1, cpy_i hj]
  · rw [e8, pk_un (by omega), e7, pk_un (by omega), e6, pk_un (by omega), e5, cpy_o (by omega), e4, cpy_o (by omega), e3, cpy_o (by omega), e2, cpy_i hj]
  · rw [e8, pk_un (by omega), e7, pk_un (by omega), e6, pk_un (by omega), e5, cpy_o (by omega), e4, cpy_o (by omega), e3, cpy_i hj]
  · rw [e8, pk_un (by omega), e7, pk_un (by omega), e6, pk_un (by omega), e5, cpy_o (by omega), e4, cpy_i hj]
  · rw [e8, pk_un (by omega), e7, pk_un (by omega), e6, pk_un (by omega), e5, cpy_i hj]
  · rw [e8, pk_un (by omega), e7, pk_un (by omega), e6, pk_us]
  · rw [e8, pk_un (by omega), e7, pk_us]
  · rw [e8, pk_us]
  · rw [e8, pk_un (by omega), e7, pk_un (by omega), e6, pk_un (by omega), e5, cpy_o (by omega), e4, cpy_o (by omega), e3, cpy_o (by omega), e2, cpy_o (by omega), e1, cpy_o (by omega)]

set_option maxHeartbeats 1000000 in
set_option maxRecDepth 100000 in
/-- X12_passes_k -/
theorem c_X12_passes_k (l : Launch) (dC : Nat → ClassId) (dI : Nat → Nat → Nat) (aC : Nat → ClassId) (sz : Nat) (g0 : Nat) (m_refused : Nat) (m_kind : Nat) (m_figure : Nat) (m_weight : Nat) (m_got : Nat) (m_setting : Nat) (m_tape : Nat) (m_letter : Nat) (m_letterAt : Nat) (m_told : Nat) (m_kept : Nat) (m_price : Nat) (m_offer : Nat) (m_gets : Nat) (m_yes : Nat) (m_buys : Nat) (m_ends : Nat) (m_carried : Nat) (m_row : Nat) (m_keptRow : Nat) (m_likeGets : Nat) (m_likePrice : Nat) (m_ahead : Nat) (men : Int32) (msy : Int32) (mdn : Int32) (tp : Int32) (mat : Int32) (stm : Int32) (him : Int32) (rm : Int32) (oa : Nat) (nA : Nat) (c0 : Nat) (of : Nat → Int32) (kp : Nat → Int32) (hc : c0 + nA ≤ 100) : Met l yX12_passes (wW yX12_passes cX12_passes 3 (none : Option FieldType)) ({ frames := 0, cells := 0, slots := 0, locals := 0 } : Room) (va_Pc [Value.ref g0, Value.ref oa] (fun U => U.heap.size = sz ∧ va_P (dC, dI) classes [oX12 g0 m_refused m_kind m_figure m_weight m_got m_setting men msy mdn m_tape m_letter m_letterAt m_told tp mat stm m_kept him 1 (nI c0) m_price m_offer m_gets m_yes m_buys m_ends m_carried m_row rm m_keptRow m_likeGets m_likePrice m_ahead, cI aC m_kept 100 kp, cI aC oa nA of] U.heap ∧ va_K (dC, dI) classes (TY aC) U ∧ va_D (fun _ => True) [oX12 g0 m_refused m_kind m_figure m_weight m_got m_setting men msy mdn m_tape m_letter m_letterAt m_told tp mat stm m_kept him 1 (nI c0) m_price m_offer m_gets m_yes m_buys m_ends m_carried m_row rm m_keptRow m_likeGets m_likePrice m_ahead, cI aC m_kept 100 kp, cI aC oa nA of] ∧ NX U)) (va_Qv (fun (kq : Nat → Int32) => kq = va_cpy of kp 0 c0 nA) (fun (kq : Nat → Int32) (t : State) => va_P (dC, dI) classes [oX12 g0 m_refused m_kind m_figure m_weight m_got m_setting men msy mdn m_tape m_letter m_letterAt m_told tp mat stm m_kept him 1 (nI (c0 + nA)) m_price m_offer m_gets m_yes m_buys m_ends m_carried m_row rm m_keptRow m_likeGets m_likePrice m_ahead, cI aC m_kept 100 kq, cI aC oa nA of] t.heap ∧ va_K (dC, dI) classes (TY aC) t ∧ va_D (va_A [oX12 g0 m_refused m_kind m_figure m_weight m_got m_setting men msy mdn m_tape m_letter m_letterAt m_told tp mat stm m_kept him 1 (nI c0) m_price m_offer m_gets m_yes m_buys m_ends m_carried m_row rm m_keptRow m_likeGets m_likePrice m_ahead, cI aC m_kept 100 kp, cI aC oa nA of] sz) [oX12 g0 m_refused m_kind m_figure m_weight m_got m_setting men msy mdn m_tape m_letter m_letterAt m_told tp mat stm m_kept him 1 (nI (c0 + nA)) m_price m_offer m_gets m_yes m_buys m_ends m_carried m_row rm m_keptRow m_likeGets m_likePrice m_ahead, cI aC m_kept 100 kq, cI aC oa nA of]) (va_A [oX12 g0 m_refused m_kind m_figure m_weight m_got m_setting men msy mdn m_tape m_letter m_letterAt m_told tp mat stm m_kept him 1 (nI c0) m_price m_offer m_gets m_yes m_buys m_ends m_carried m_row rm m_keptRow m_likeGets m_likePrice m_ahead, cI aC m_kept 100 kp, cI aC oa nA of] sz)) 0 0 (va_A [oX12 g0 m_refused m_kind m_figure m_weight m_got m_setting men msy mdn m_tape m_letter m_letterAt m_told tp mat stm m_kept him 1 (nI c0) m_price m_offer m_gets m_yes m_buys m_ends m_carried m_row rm m_keptRow m_likeGets m_likePrice m_ahead, cI aC m_kept 100 kp, cI aC oa nA of] sz) := by
  refine Met.ofW (cc := cX12_passes) (maxL := 3) (ret := (none : Option FieldType)) (by decide) rfl ?_
  intro p e s m args below meth c s₁ B hml hv
  obtain ⟨rfl, hsz, hP, hK, hD0, hN⟩ := hv
  have hx := B.exec
  have hb := B.bytes
  have hr := B.returns
  have hts0 := atoms_spec (ws := (wW yX12_passes cX12_passes 3 (none : Option FieldType))) B.pre
  have hts : ∀ w9 ∈ lw_G, w9.before ([Value.ref g0, Value.ref oa] : List Value).toArray s = true := fun w9 h9 => hts0 w9 (List.mem_cons_of_mem _ h9)
  have hown : s.vm.findClass RX12 = some m.cls := findClass_of_methodNamed (x := yX12_passes) B.named
  have hlocks := B.notSynchronized
  subst hsz
  have hD := hD0.self (sz := s.heap.size)
  generalize hAe : va_A [oX12 g0 m_refused m_kind m_figure m_weight m_got m_setting men msy mdn m_tape m_letter m_letterAt m_told tp mat stm m_kept him 1 (nI c0) m_price m_offer m_gets m_yes m_buys m_ends m_carried m_row rm m_keptRow m_likeGets m_likePrice m_ahead, cI aC m_kept 100 kp, cI aC oa nA of] s.heap.size = A at hD ⊢
  have hA : ∀ q : Nat, s.heap.size ≤ q → A q := fun q h => by rw [← hAe]; exact Or.inr h
  obtain ⟨H, hHe⟩ : ∃ H : Heap, H = s.heap := ⟨_, rfl⟩
  have hS : va_S A s.heap H [] := by rw [hHe]; exact va_S.rf
  have hP : va_P (dC, dI) classes [oX12 g0 m_refused m_kind m_figure m_weight m_got m_setting men msy mdn m_tape m_letter m_letterAt m_told tp mat stm m_kept him 1 (nI c0) m_price m_offer m_gets m_yes m_buys m_ends m_carried m_row rm m_keptRow m_likeGets m_likePrice m_ahead, cI aC m_kept 100 kp, cI aC oa nA of] H := by rw [hHe]; exact hP
  have hl := lv_entry ([Value.ref g0, Value.ref oa]) (n := 3) (Nat.le_of_ble_eq_true rfl)
  rw [lg_entry_eq]
  generalize (lg_sl ([Value.ref g0, Value.ref oa]) ++ List.replicate (3 - (lg_sl ([Value.ref g0, Value.ref oa])).length) Slot.unset).toArray = ls at hl ⊢
  have hl : lv_has ls 3 [(0, Value.ref g0), (1, Value.ref oa)] := hl
  rw [← hHe]
  refine lv_iconst (v := 0) hx hb dX12_passes_0 (by decide) ?_
  refine lv_istore_n (lv' := [(2, Value.int 0), (0, Value.ref g0), (1, Value.ref oa)]) hx hb dX12_passes_1 rfl hl (by decide) rfl (fun ls hl => ?_)
  have lp_2 : ∀ (fu : Nat) (k : Nat) (kc : Nat → Int32) (hfu : nA - k < fu) (hk : k ≤ nA) (hkc : kc = va_cpy of kp 0 c0 k) (H : Heap) (locs : List Loc) (ls : Array Slot), va_P (dC, dI) classes [oX12 g0 m_refused m_kind m_figure m_weight m_got m_setting men msy mdn m_tape m_letter m_letterAt m_told tp mat stm m_kept him 1 (nI (c0 + k)) m_price m_offer m_gets m_yes m_buys m_ends m_carried m_row rm m_keptRow m_likeGets m_likePrice m_ahead, cI aC m_kept 100 kc, cI aC oa nA of] H → va_D A [oX12 g0 m_refused m_kind m_figure m_weight m_got m_setting men msy mdn m_tape m_letter m_letterAt m_told tp mat stm m_kept him 1 (nI (c0 + k)) m_price m_offer m_gets m_yes m_buys m_ends m_carried m_row rm m_keptRow m_likeGets m_likePrice m_ahead, cI aC m_kept 100 kc, cI aC oa nA of] → va_S A s.heap H locs → lv_has ls 3 [(0, Value.ref g0), (1, Value.ref oa), (2, Value.int (nI k))] → W p l e (headSpec (wW yX12_passes cX12_passes 3 (none : Option FieldType)) ({ frames := 0, cells := 0, slots := 0, locals := 0 } : Room)).room s m ([Value.ref g0, Value.ref oa] : List Value).toArray below meth c H locs 0 0 (MQ below (va_Qv (fun (kq : Nat → Int32) => kq = va_cpy of kp 0 c0 nA) (fun (kq : Nat → Int32) (t : State) => va_P (dC, dI) classes [oX12 g0 m_refused m_kind m_figure m_weight m_got m_setting men msy mdn m_tape m_letter m_letterAt m_told tp mat stm m_kept him 1 (nI (c0 + nA)) m_price m_offer m_gets m_yes m_buys m_ends m_carried m_row rm m_keptRow m_likeGets m_likePrice m_ahead, cI aC m_kept 100 kq, cI aC oa nA of] t.heap ∧ va_K (dC, dI) classes (TY aC) t ∧ va_D A [oX12 g0 m_refused m_kind m_figure m_weight m_got m_setting men msy mdn m_tape m_letter m_letterAt m_told tp mat stm m_kept him 1 (nI (c0 + nA)) m_price m_offer m_gets m_yes m_buys m_ends m_carried m_row rm m_keptRow m_likeGets m_likePrice m_ahead, cI aC m_kept 100 kq, cI aC oa nA of]) A) ([Value.ref g0, Value.ref oa] : List Value).toArray s 0 0 A) (F0 m 2 ls []) := by
    intro fu
    induction fu with
    | zero => intro k kc hfu; exact absurd hfu (Nat.not_lt_zero _)
    | succ fu ih_2 =>
      intro k kc hfu hk hkc H locs ls hP hD hS hl
      refine lv_iload_n hx hb dX12_passes_2 rfl (lv_at hl 2 rfl) ?_
      refine lv_aload_n hx hb dX12_passes_3 rfl (lv_at hl 1 rfl) ?_
      refine va_alen (v := Int32.ofNat nA) hx hb hK hP 2 0 rfl rfl rfl dX12_passes_4 ?_
      refine lv_topi (fun x_1 e_1 => ?_)
      refine lv_icmp_ge (tgt := 58) hx hb dX12_passes_5 (by decide) (fun c_2 => ?_) (fun c_2 => ?_)
      · have hkn : k = nA := by
          rcases Nat.lt_or_ge k nA with q | q
          · exact absurd (by rw [e_1] at c_2; exact c_2) (nI_ge q (by omega))
          · omega
        subst hkn
        have hpd9 := pd_N (cx := [oX12 g0 m_refused m_kind m_figure m_weight m_got m_setting men msy mdn m_tape m_letter m_letterAt m_told tp mat stm m_kept him 1 (nI (c0 + k)) m_price m_offer m_gets m_yes m_buys m_ends m_carried m_row rm m_keptRow m_likeGets m_likePrice m_ahead, cI aC m_kept 100 kc, cI aC oa k of]) hP hD [0, 1, 2] (by decide) rfl
        have hP9 := hpd9.1
        have hD9 := hpd9.2
        refine W.widen (k := 0) (n := 0) (by omega) (by omega) ?_
        exact W.vret hx hb hr (fun t ht hW => ⟨⟨(kc), rfl, hkc, by rw [ht]; exact hP9, va_K.moved hW.alike hK, hD9⟩, hS.F ht⟩) hS.2.2 dX12_passes_58
      · have hlt : k < nA := by
          rcases Nat.lt_or_ge k nA with q | q
          · exact q
          · exact absurd (by rw [e_1]; exact nI_le q (by omega)) c_2
        refine lv_aload_n hx hb dX12_passes_8 rfl (lv_at hl 0 rfl) ?_
        refine va_get (D := (dC, dI)) (ci := 12) (v := Value.int 1) (C := RX12) (T := TX12) (N := 33) hx hb hts inX12 hown hK hP 0 rfl rfl 18 (by decide) (hts _ (gw kw_735 rfl)) (fun _ h9 => h9) rfl dX12_passes_9 ?_
        refine lv_if_eq (tgt := 30) hx hb dX12_passes_12 (by decide) (fun c_3 => ?_) (fun c_3 => ?_)
        · exact absurd c_3 (by decide)
        · refine lv_aload_n hx hb dX12_passes_15 rfl (lv_at hl 0 rfl) ?_
          refine va_get (D := (dC, dI)) (ci := 12) (v := Value.ref m_kept) (C := RX12) (T := TX12) (N := 33) hx hb hts inX12 hown hK hP 0 rfl rfl 16 (by decide) (hts _ (gw kw_733 rfl)) (fun _ h9 => h9) rfl dX12_passes_16 ?_
          refine lv_aload_n hx hb dX12_passes_19 rfl (lv_at hl 0 rfl) ?_
          refine va_get (D := (dC, dI)) (ci := 12) (v := Value.int (nI (c0 + k))) (C := RX12) (T := TX12) (N := 33) hx hb hts inX12 hown hK hP 0 rfl rfl 19 (by decide) (hts _ (gw kw_736 rfl)) (fun _ h9 => h9) rfl dX12_passes_20 ?_
          refine lv_aload_n hx hb dX12_passes_23 rfl (lv_at hl 1 rfl) ?_
          refine lv_iload_n hx hb dX12_passes_24 rfl (lv_at hl 2 rfl) ?_
          have h_4 : vp_in (nI k) nA := vp_in_nI (by omega) (by omega)
          refine va_iald hx hb hK hP 2 0 rfl rfl h_4 dX12_passes_25 ?_
          refine lv_topi (fun x_5 e_5 => ?_)
          have h_6 : vp_in (nI (c0 + k)) 100 := vp_in_nI (by omega) (by omega)
          refine va_iast hx hb hK hP hD hS 1 0 rfl rfl h_6 dX12_passes_26 (fun H locs hP hD hS => ?_)
          obtain ⟨f_7, e_f_7⟩ : ∃ y : Nat → Int32, y = upd kc (nI (c0 + k) : Int32).toNatClampNeg x_5 := ⟨_, rfl⟩
          have hpd9 : PDx (dC, dI) classes A H [oX12 g0 m_refused m_kind m_figure m_weight m_got m_setting men msy mdn m_tape m_letter m_letterAt m_told tp mat stm m_kept him 1 (nI (c0 + k)) m_price m_offer m_gets m_yes m_buys m_ends m_carried m_row rm m_keptRow m_likeGets m_likePrice m_ahead, cI aC m_kept 100 f_7, cI aC oa nA of] := by rw [e_f_7]; exact ⟨hP, hD⟩
          have hP := hpd9.1
          have hD := hpd9.2
          clear hpd9
          refine lv_goto (tgt := 42) hx hb dX12_passes_27 (by decide) ?_
          refine lv_aload_n hx hb dX12_passes_42 rfl (lv_at hl 0 rfl) ?_
          refine lv_dup hx hb dX12_passes_43 rfl ?_
          refine va_get (D := (dC, dI)) (ci := 12) (v := Value.int (nI (c0 + k))) (C := RX12) (T := TX12) (N := 33) hx hb hts inX12 hown hK hP 0 rfl rfl 19 (by decide) (hts _ (gw kw_736 rfl)) (fun _ h9 => h9) rfl dX12_passes_44 ?_
          refine lv_iconst (v := 1) hx hb dX12_passes_47 (by decide) ?_
          refine lv_iadd hx hb dX12_passes_48 ?_
          refine lv_topi (fun x_8 e_8 => ?_)
          refine va_put (D := (dC, dI)) (ci := 12) (v := Value.int x_8) (ty := .int) (C := RX12) (T := TX12) (N := 33) hx hb hts inX12 tyX12 tyX12_ok nmX12 hown hK hP hD hS 0 rfl rfl 19 (by decide) (hts _ (gw kw_736 rfl)) (fun _ h9 => h9) rfl (by decide +kernel) rfl rfl (Nat.le_of_ble_eq_true rfl) dX12_passes_49 (fun H locs hP hD hS => ?_)
          have hpd9 : PDx (dC, dI) classes A H [oX12 g0 m_refused m_kind m_figure m_weight m_got m_setting men msy mdn m_tape m_letter m_letterAt m_told tp mat stm m_kept him 1 x_8 m_price m_offer m_gets m_yes m_buys m_ends m_carried m_row rm m_keptRow m_likeGets m_likePrice m_ahead, cI aC m_kept 100 f_7, cI aC oa nA of] := ⟨hP, hD⟩
          have hP := hpd9.1
          have hD := hpd9.2
          clear hpd9
          have h9 : x_8 = nI (c0 + (k + 1)) := by rw [e_8, nI_1]; rfl
          subst h9
          obtain ⟨x_9, e_9⟩ : ∃ y : Int32, y = (nI k) + 1 := ⟨_, rfl⟩
          refine lv_iinc (v := x_9) (lv' := [(2, Value.int x_9), (0, Value.ref g0), (1, Value.ref oa)]) hx hb dX12_passes_52 hl (k := 2) rfl (by rw [e_9]; rfl) (by decide) rfl (fun ls hl => ?_)
          have h9 : x_9 = nI (k + 1) := by rw [e_9, nI_1]
          subst h9
          refine lv_goto (tgt := 2) hx hb dX12_passes_55 (by decide) ?_
          exact ih_2 (k + 1) f_7 (by omega) (by omega) (by rw [e_f_7, e_5, hkc, nI_clamp (by omega), nI_clamp (by omega)]; exact cpy_step) _ _ _ (hP.sub [0, 1, 2] rfl) (hD.sub [0, 1, 2] (by decide) rfl) hS (lv_sub hl [1, 2, 0] rfl)
  exact lp_2 ((nA - 0) + 1) 0 kp (Nat.lt_succ_self _) (Nat.zero_le _) (cpy_0) _ _ _ (hP.sub [0, 1, 2] rfl) (hD.sub [0, 1, 2] (by decide) rfl) hS (lv_sub hl [1, 2, 0] rfl)

set_option maxHeartbeats 1000000 in
set_option maxRecDepth 100000 in
/-- X12_passOne_k -/
theorem c_X12_passOne_k (l : Launch) (dC : Nat → ClassId) (dI : Nat → Nat → Nat) (aC : Nat → ClassId) (sz : Nat) (g0 : Nat) (m_refused : Nat) (m_kind : Nat) (m_figure : Nat) (m_weight : Nat) (m_got : Nat) (m_setting : Nat) (m_tape : Nat) (m_letter : Nat) (m_letterAt : Nat) (m_told : Nat) (m_kept : Nat) (m_price : Nat) (m_offer : Nat) (m_gets : Nat) (m_yes : Nat) (m_buys : Nat) (m_ends : Nat) (m_carried : Nat) (m_row : Nat) (m_keptRow : Nat) (m_likeGets : Nat) (m_likePrice : Nat) (m_ahead : Nat) (men : Int32) (msy : Int32) (mdn : Int32) (tp : Int32) (mat : Int32) (stm : Int32) (him : Int32) (rm : Int32) (v : Int32) (c0 : Nat) (kp : Nat → Int32) (hc : c0 < 100) : Met l yX12_passOne (wW yX12_passOne cX12_passOne 3 (some .int)) ({ frames := 0, cells := 0, slots := 0, locals := 0 } : Room) (va_Pc [Value.ref g0, Value.int v] (fun U => U.heap.size = sz ∧ va_P (dC, dI) classes [oX12 g0 m_refused m_kind m_figure m_weight m_got m_setting men msy mdn m_tape m_letter m_letterAt m_told tp mat stm m_kept him 1 (nI c0) m_price m_offer m_gets m_yes m_buys m_ends m_carried m_row rm m_keptRow m_likeGets m_likePrice m_ahead, cI aC m_kept 100 kp] U.heap ∧ va_K (dC, dI) classes (TY aC) U ∧ va_D (fun _ => True) [oX12 g0 m_refused m_kind m_figure m_weight m_got m_setting men msy mdn m_tape m_letter m_letterAt m_told tp mat stm m_kept him 1 (nI c0) m_price m_offer m_gets m_yes m_buys m_ends m_carried m_row rm m_keptRow m_likeGets m_likePrice m_ahead, cI aC m_kept 100 kp] ∧ NX U)) (va_Qi (fun (r : Int32) (kq : Nat → Int32) => r = v ∧ kq = upd kp c0 v) (fun (kq : Nat → Int32) (t : State) => va_P (dC, dI) classes [oX12 g0 m_refused m_kind m_figure m_weight m_got m_setting men msy mdn m_tape m_letter m_letterAt m_told tp mat stm m_kept him 1 (nI (c0 + 1)) m_price m_offer m_gets m_yes m_buys m_ends m_carried m_row rm m_keptRow m_likeGets m_likePrice m_ahead, cI aC m_kept 100 kq] t.heap ∧ va_K (dC, dI) classes (TY aC) t ∧ va_D (va_A [oX12 g0 m_refused m_kind m_figure m_weight m_got m_setting men msy mdn m_tape m_letter m_letterAt m_told tp mat stm m_kept him 1 (nI c0) m_price m_offer m_gets m_yes m_buys m_ends m_carried m_row rm m_keptRow m_likeGets m_likePrice m_ahead, cI aC m_kept 100 kp] sz) [oX12 g0 m_refused m_kind m_figure m_weight m_got m_setting men msy mdn m_tape m_letter m_letterAt m_told tp mat stm m_kept him 1 (nI (c0 + 1)) m_price m_offer m_gets m_yes m_buys m_ends m_carried m_row rm m_keptRow m_likeGets m_likePrice m_ahead, cI aC m_kept 100 kq]) (va_A [oX12 g0 m_refused m_kind m_figure m_weight m_got m_setting men msy mdn m_tape m_letter m_letterAt m_told tp mat stm m_kept him 1 (nI c0) m_price m_offer m_gets m_yes m_buys m_ends m_carried m_row rm m_keptRow m_likeGets m_likePrice m_ahead, cI aC m_kept 100 kp] sz)) 0 0 (va_A [oX12 g0 m_refused m_kind m_figure m_weight m_got m_setting men msy mdn m_tape m_letter m_letterAt m_told tp mat stm m_kept him 1 (nI c0) m_price m_offer m_gets m_yes m_buys m_ends m_carried m_row rm m_keptRow m_likeGets m_likePrice m_ahead, cI aC m_kept 100 kp] sz) := by
  refine Met.ofW (cc := cX12_passOne) (maxL := 3) (ret := (some .int)) (by decide) rfl ?_
  intro p e s m args below meth c s₁ B hml hv
  obtain ⟨rfl, hsz, hP, hK, hD0, hN⟩ := hv
  have hx := B.exec
  have hb := B.bytes
  have hr := B.returns
  have hts0 := atoms_spec (ws := (wW yX12_passOne cX12_passOne 3 (some .int))) B.pre
  have hts : ∀ w9 ∈ lw_G, w9.before ([Value.ref g0, Value.int v] : List Value).toArray s = true := fun w9 h9 => hts0 w9 (List.mem_cons_of_mem _ h9)
  have hown : s.vm.findClass RX12 = some m.cls := findClass_of_methodNamed (x := yX12_passOne) B.named
  have hlocks := B.notSynchronized
  subst hsz
  have hD := hD0.self (sz := s.heap.size)
  generalize hAe : va_A [oX12 g0 m_refused m_kind m_figure m_weight m_got m_setting men msy mdn m_tape m_letter m_letterAt m_told tp mat stm m_kept him 1 (nI c0) m_price m_offer m_gets m_yes m_buys m_ends m_carried m_row rm m_keptRow m_likeGets m_likePrice m_ahead, cI aC m_kept 100 kp] s.heap.size = A at hD ⊢
  have hA : ∀ q : Nat, s.heap.size ≤ q → A q := fun q h => by rw [← hAe]; exact Or.inr h
  obtain ⟨H, hHe⟩ : ∃ H : Heap, H = s.heap := ⟨_, rfl⟩
  have hS : va_S A s.heap H [] := by rw [hHe]; exact va_S.rf
  have hP : va_P (dC, dI) classes [oX12 g0 m_refused m_kind m_figure m_weight m_got m_setting men msy mdn m_tape m_letter m_letterAt m_told tp mat stm m_kept him 1 (nI c0) m_price m_offer m_gets m_yes m_buys m_ends m_carried m_row rm m_keptRow m_likeGets m_likePrice m_ahead, cI aC m_kept 100 kp] H := by rw [hHe]; exact hP
  have hl := lv_entry ([Value.ref g0, Value.int v]) (n := 3) (Nat.le_of_ble_eq_true rfl)
  rw [lg_entry_eq]
  generalize (lg_sl ([Value.ref g0, Value.int v]) ++ List.replicate (3 - (lg_sl ([Value.ref g0, Value.int v])).length) Slot.unset).toArray = ls at hl ⊢
  have hl : lv_has ls 3 [(0, Value.ref g0), (1, Value.int v)] := hl
  rw [← hHe]
  refine lv_aload_n hx hb dX12_passOne_0 rfl (lv_at hl 0 rfl) ?_
  refine va_get (D := (dC, dI)) (ci := 12) (v := Value.int 1) (C := RX12) (T := TX12) (N := 33) hx hb hts inX12 hown hK hP 0 rfl rfl 18 (by decide) (hts _ (gw kw_735 rfl)) (fun _ h9 => h9) rfl dX12_passOne_1 ?_
  refine lv_if_eq (tgt := 11) hx hb dX12_passOne_4 (by decide) (fun c_1 => ?_) (fun c_1 => ?_)
  · exact absurd c_1 (by decide)
  · refine lv_iload_n hx hb dX12_passOne_7 rfl (lv_at hl 1 rfl) ?_
    refine lv_goto (tgt := 20) hx hb dX12_passOne_8 (by decide) ?_
    refine lv_istore_n (lv' := [(2, Value.int v), (0, Value.ref g0), (1, Value.int v)]) hx hb dX12_passOne_20 rfl hl (by decide) rfl (fun ls hl => ?_)
    refine lv_aload_n hx hb dX12_passOne_21 rfl (lv_at hl 1 rfl) ?_
    refine va_get (D := (dC, dI)) (ci := 12) (v := Value.int 1) (C := RX12) (T := TX12) (N := 33) hx hb hts inX12 hown hK hP 0 rfl rfl 18 (by decide) (hts _ (gw kw_735 rfl)) (fun _ h9 => h9) rfl dX12_passOne_22 ?_
    refine lv_if_eq (tgt := 38) hx hb dX12_passOne_25 (by decide) (fun c_2 => ?_) (fun c_2 => ?_)
    · exact absurd c_2 (by decide)
    · refine lv_aload_n hx hb dX12_passOne_28 rfl (lv_at hl 1 rfl) ?_
      refine va_get (D := (dC, dI)) (ci := 12) (v := Value.ref m_kept) (C := RX12) (T := TX12) (N := 33) hx hb hts inX12 hown hK hP 0 rfl rfl 16 (by decide) (hts _ (gw kw_733 rfl)) (fun _ h9 => h9) rfl dX12_passOne_29 ?_
      refine lv_aload_n hx hb dX12_passOne_32 rfl (lv_at hl 1 rfl) ?_
      refine va_get (D := (dC, dI)) (ci := 12) (v := Value.int (nI c0)) (C := RX12) (T := TX12) (N := 33) hx hb hts inX12 hown hK hP 0 rfl rfl 19 (by decide) (hts _ (gw kw_736 rfl)) (fun _ h9 => h9) rfl dX12_passOne_33 ?_
      refine lv_iload_n hx hb dX12_passOne_36 rfl (lv_at hl 2 rfl) ?_
      have h_3 : vp_in (nI c0) 100 := vp_in_nI (by omega) (by omega)
      refine va_iast hx hb hK hP hD hS 1 0 rfl rfl h_3 dX12_passOne_37 (fun H locs hP hD hS => ?_)
      obtain ⟨f_4, e_f_4⟩ : ∃ y : Nat → Int32, y = upd kp (nI c0 : Int32).toNatClampNeg v := ⟨_, rfl⟩
      have hpd9 : PDx (dC, dI) classes A H [oX12 g0 m_refused m_kind m_figure m_weight m_got m_setting men msy mdn m_tape m_letter m_letterAt m_told tp mat stm m_kept him 1 (nI c0) m_price m_offer m_gets m_yes m_buys m_ends m_carried m_row rm m_keptRow m_likeGets m_likePrice m_ahead, cI aC m_kept 100 f_4] := by rw [e_f_4]; exact ⟨hP, hD⟩
      have hP := hpd9.1
      have hD := hpd9.2
      clear hpd9
      refine lv_aload_n hx hb dX12_passOne_38 rfl (lv_at hl 1 rfl) ?_
      refine lv_dup hx hb dX12_passOne_39 rfl ?_
      refine va_get (D := (dC, dI)) (ci := 12) (v := Value.int (nI c0)) (C := RX12) (T := TX12) (N := 33) hx hb hts inX12 hown hK hP 0 rfl rfl 19 (by decide) (hts _ (gw kw_736 rfl)) (fun _ h9 => h9) rfl dX12_passOne_40 ?_
      refine lv_iconst (v := 1) hx hb dX12_passOne_43 (by decide) ?_
      refine lv_iadd hx hb dX12_passOne_44 ?_
      refine lv_topi (fun x_5 e_5 => ?_)
      refine va_put (D := (dC, dI)) (ci := 12) (v := Value.int x_5) (ty := .int) (C := RX12) (T := TX12) (N := 33) hx hb hts inX12 tyX12 tyX12_ok nmX12 hown hK hP hD hS 0 rfl rfl 19 (by decide) (hts _ (gw kw_736 rfl)) (fun _ h9 => h9) rfl (by decide +kernel) rfl rfl (Nat.le_of_ble_eq_true rfl) dX12_passOne_45 (fun H locs hP hD hS => ?_)
      have hpd9 : PDx (dC, dI) classes A H [oX12 g0 m_refused m_kind m_figure m_weight m_got m_setting men msy mdn m_tape m_letter m_letterAt m_told tp mat stm m_kept him 1 x_5 m_price m_offer m_gets m_yes m_buys m_ends m_carried m_row rm m_keptRow m_likeGets m_likePrice m_ahead, cI aC m_kept 100 f_4] := ⟨hP, hD⟩
      have hP := hpd9.1
      have hD := hpd9.2
      clear hpd9
      have h9 : x_5 = nI (c0 + 1) := by rw [e_5, nI_1]
      subst h9
      refine lv_iload_n hx hb dX12_passOne_48 rfl (lv_at hl 0 rfl) ?_
      have hpd9 := pd_N (cx := [oX12 g0 m_refused m_kind m_figure m_weight m_got m_setting men msy mdn m_tape m_letter m_letterAt m_told tp mat stm m_kept him 1 (nI (c0 + 1)) m_price m_offer m_gets m_yes m_buys m_ends m_carried m_row rm m_keptRow m_likeGets m_likePrice m_ahead, cI aC m_kept 100 f_4]) hP hD [0, 1] (by decide) rfl
      have hP9 := hpd9.1
      have hD9 := hpd9.2
      refine W.widen (k := 0) (n := 0) (by omega) (by omega) ?_
      exact W.iret (v := v) hx hb hr (fun t ht hW => ⟨⟨v, (f_4), rfl, ⟨rfl, by rw [e_f_4, nI_clamp (by omega)]⟩, by rw [ht]; exact hP9, va_K.moved hW.alike hK, hD9⟩, hS.F ht⟩) hS.2.2 dX12_passOne_49

set_option maxHeartbeats 1000000 in
set_option maxRecDepth 100000 in
/-- X12_passes_l -/
theorem c_X12_passes_l (l : Launch) (dC : Nat → ClassId) (dI : Nat → Nat → Nat) (aC : Nat → ClassId) (sz : Nat) (g0 : Nat) (m_refused : Nat) (m_kind : Nat) (m_figure : Nat) (m_weight : Nat) (m_got : Nat) (m_setting : Nat) (m_tape : Nat) (m_letter : Nat) (m_letterAt : Nat) (m_told : Nat) (m_kept : Nat) (m_price : Nat) (m_offer : Nat) (m_gets : Nat) (m_yes : Nat) (m_buys : Nat) (m_ends : Nat) (m_carried : Nat) (m_row : Nat) (m_keptRow : Nat) (m_likeGets : Nat) (m_likePrice : Nat) (m_ahead : Nat) (men : Int32) (msy : Int32) (mdn : Int32) (tp : Int32) (mat : Int32) (stm : Int32) (him : Int32) (rm : Int32) (oa : Nat) (nA : Nat) (c0 : Nat) (of : Nat → Int32) (kp : Nat → Int32) (hc : c0 + nA ≤ 100) : Met l yX12_passes (wW yX12_passes cX12_passes 3 (none : Option FieldType)) ({ frames := 0, cells := 0, slots := 0, locals := 0 } : Room) (va_Pc [Value.ref g0, Value.ref oa] (fun U => U.heap.size = sz ∧ va_P (dC, dI) classes [oX12 g0 m_refused m_kind m_figure m_weight m_got m_setting men msy mdn m_tape m_letter m_letterAt m_told tp mat stm m_kept him 0 (nI c0) m_price m_offer m_gets m_yes m_buys m_ends m_carried m_row rm m_keptRow m_likeGets m_likePrice m_ahead, cI aC m_kept 100 kp, cI aC oa nA of] U.heap ∧ va_K (dC, dI) classes (TY aC) U ∧ va_D (fun _ => True) [oX12 g0 m_refused m_kind m_figure m_weight m_got m_setting men msy mdn m_tape m_letter m_letterAt m_told tp mat stm m_kept him 0 (nI c0) m_price m_offer m_gets m_yes m_buys m_ends m_carried m_row rm m_keptRow m_likeGets m_likePrice m_ahead, cI aC m_kept 100 kp, cI aC oa nA of] ∧ NX U)) (va_Qv (fun (kq : Nat → Int32) => ∀ j, j < nA → kq j = kp (c0 + j)) (fun (kq : Nat → Int32) (t : State) => va_P (dC, dI) classes [oX12 g0 m_refused m_kind m_figure m_weight m_got m_setting men msy mdn m_tape m_letter m_letterAt m_told tp mat stm m_kept him 0 (nI (c0 + nA)) m_price m_offer m_gets m_yes m_buys m_ends m_carried m_row rm m_keptRow m_likeGets m_likePrice m_ahead, cI aC m_kept 100 kp, cI aC oa nA kq] t.heap ∧ va_K (dC, dI) classes (TY aC) t ∧ va_D (va_A [oX12 g0 m_refused m_kind m_figure m_weight m_got m_setting men msy mdn m_tape m_letter m_letterAt m_told tp mat stm m_kept him 0 (nI c0) m_price m_offer m_gets m_yes m_buys m_ends m_carried m_row rm m_keptRow m_likeGets m_likePrice m_ahead, cI aC m_kept 100 kp, cI aC oa nA of] sz) [oX12 g0 m_refused m_kind m_figure m_weight m_got m_setting men msy mdn m_tape m_letter m_letterAt m_told tp mat stm m_kept him 0 (nI (c0 + nA)) m_price m_offer m_gets m_yes m_buys m_ends m_carried m_row rm m_keptRow m_likeGets m_likePrice m_ahead, cI aC m_kept 100 kp, cI aC oa nA kq]) (va_A [oX12 g0 m_refused m_kind m_figure m_weight m_got m_setting men msy mdn m_tape m_letter m_letterAt m_told tp mat stm m_kept him 0 (nI c0) m_price m_offer m_gets m_yes m_buys m_ends m_carried m_row rm m_keptRow m_likeGets m_likePrice m_ahead, cI aC m_kept 100 kp, cI aC oa nA of] sz)) 0 0 (va_A [oX12 g0 m_refused m_kind m_figure m_weight m_got m_setting men msy mdn m_tape m_letter m_letterAt m_told tp mat stm m_kept him 0 (nI c0) m_price m_offer m_gets m_yes m_buys m_ends m_carried m_row rm m_keptRow m_likeGets m_likePrice m_ahead, cI aC m_kept 100 kp, cI aC oa nA of] sz) := by
  refine Met.ofW (cc := cX12_passes) (maxL := 3) (ret := (none : Option FieldType)) (by decide) rfl ?_
  intro p e s m args below meth c s₁ B hml hv
  obtain ⟨rfl, hsz, hP, hK, hD0, hN⟩ := hv
  have hx := B.exec
  have hb := B.bytes
  have hr := B.returns
  have hts0 := atoms_spec (ws := (wW yX12_passes cX12_passes 3 (none : Option FieldType))) B.pre
  have hts : ∀ w9 ∈ lw_G, w9.before ([Value.ref g0, Value.ref oa] : List Value).toArray s = true := fun w9 h9 => hts0 w9 (List.mem_cons_of_mem _ h9)
  have hown : s.vm.findClass RX12 = some m.cls := findClass_of_methodNamed (x := yX12_passes) B.named
  have hlocks := B.notSynchronized
  subst hsz
  have hD := hD0.self (sz := s.heap.size)
  generalize hAe : va_A [oX12 g0 m_refused m_kind m_figure m_weight m_got m_setting men msy mdn m_tape m_letter m_letterAt m_told tp mat stm m_kept him 0 (nI c0) m_price m_offer m_gets m_yes m_buys m_ends m_carried m_row rm m_keptRow m_likeGets m_likePrice m_ahead, cI aC m_kept 100 kp, cI aC oa nA of] s.heap.size = A at hD ⊢
  have hA : ∀ q : Nat, s.heap.size ≤ q → A q := fun q h => by rw [← hAe]; exact Or.inr h
  obtain ⟨H, hHe⟩ : ∃ H : Heap, H = s.heap := ⟨_, rfl⟩
  have hS : va_S A s.heap H [] := by rw [hHe]; exact va_S.rf
  have hP : va_P (dC, dI) classes [oX12 g0 m_refused m_kind m_figure m_weight m_got m_setting men msy mdn m_tape m_letter m_letterAt m_told tp mat stm m_kept him 0 (nI c0) m_price m_offer m_gets m_yes m_buys m_ends m_carried m_row rm m_keptRow m_likeGets m_likePrice m_ahead, cI aC m_kept 100 kp, cI aC oa nA of] H := by rw [hHe]; exact hP
  have hl := lv_entry ([Value.ref g0, Value.ref oa]) (n := 3) (Nat.le_of_ble_eq_true rfl)
  rw [lg_entry_eq]
  generalize (lg_sl ([Value.ref g0, Value.ref oa]) ++ List.replicate (3 - (lg_sl ([Value.ref g0, Value.ref oa])).length) Slot.unset).toArray = ls at hl ⊢
  have hl : lv_has ls 3 [(0, Value.ref g0), (1, Value.ref oa)] := hl
  rw [← hHe]
  refine lv_iconst (v := 0) hx hb dX12_passes_0 (by decide) ?_
  refine lv_istore_n (lv' := [(2, Value.int 0), (0, Value.ref g0), (1, Value.ref oa)]) hx hb dX12_passes_1 rfl hl (by decide) rfl (fun ls hl => ?_)
  have lp_2 : ∀ (fu : Nat) (k : Nat) (kc : Nat → Int32) (hfu : nA - k < fu) (hk : k ≤ nA) (hkc : ∀ j, j < k → kc j = kp (c0 + j)) (H : Heap) (locs : List Loc) (ls : Array Slot), va_P (dC, dI) classes [oX12 g0 m_refused m_kind m_figure m_weight m_got m_setting men msy mdn m_tape m_letter m_letterAt m_told tp mat stm m_kept him 0 (nI (c0 + k)) m_price m_offer m_gets m_yes m_buys m_ends m_carried m_row rm m_keptRow m_likeGets m_likePrice m_ahead, cI aC m_kept 100 kp, cI aC oa nA kc] H → va_D A [oX12 g0 m_refused m_kind m_figure m_weight m_got m_setting men msy mdn m_tape m_letter m_letterAt m_told tp mat stm m_kept him 0 (nI (c0 + k)) m_price m_offer m_gets m_yes m_buys m_ends m_carried m_row rm m_keptRow m_likeGets m_likePrice m_ahead, cI aC m_kept 100 kp, cI aC oa nA kc] → va_S A s.heap H locs → lv_has ls 3 [(0, Value.ref g0), (1, Value.ref oa), (2, Value.int (nI k))] → W p l e (headSpec (wW yX12_passes cX12_passes 3 (none : Option FieldType)) ({ frames := 0, cells := 0, slots := 0, locals := 0 } : Room)).room s m ([Value.ref g0, Value.ref oa] : List Value).toArray below meth c H locs 0 0 (MQ below (va_Qv (fun (kq : Nat → Int32) => ∀ j, j < nA → kq j = kp (c0 + j)) (fun (kq : Nat → Int32) (t : State) => va_P (dC, dI) classes [oX12 g0 m_refused m_kind m_figure m_weight m_got m_setting men msy mdn m_tape m_letter m_letterAt m_told tp mat stm m_kept him 0 (nI (c0 + nA)) m_price m_offer m_gets m_yes m_buys m_ends m_carried m_row rm m_keptRow m_likeGets m_likePrice m_ahead, cI aC m_kept 100 kp, cI aC oa nA kq] t.heap ∧ va_K (dC, dI) classes (TY aC) t ∧ va_D A [oX12 g0 m_refused m_kind m_figure m_weight m_got m_setting men msy mdn m_tape m_letter m_letterAt m_told tp mat stm m_kept him 0 (nI (c0 + nA)) m_price m_offer m_gets m_yes m_buys m_ends m_carried m_row rm m_keptRow m_likeGets m_likePrice m_ahead, cI aC m_kept 100 kp, cI aC oa nA kq]) A) ([Value.ref g0, Value.ref oa] : List Value).toArray s 0 0 A) (F0 m 2 ls []) := by
    intro fu
    induction fu with
    | zero => intro k kc hfu; exact absurd hfu (Nat.not_lt_zero _)
    | succ fu ih_2 =>
      intro k kc hfu hk hkc H locs ls hP hD hS hl
      refine lv_iload_n hx hb dX12_passes_2 rfl (lv_at hl 2 rfl) ?_
      refine lv_aload_n hx hb dX12_passes_3 rfl (lv_at hl 1 rfl) ?_
      refine va_alen (v := Int32.ofNat nA) hx hb hK hP 2 0 rfl rfl rfl dX12_passes_4 ?_
      refine lv_topi (fun x_1 e_1 => ?_)
      refine lv_icmp_ge (tgt := 58) hx hb dX12_passes_5 (by decide) (fun c_2 => ?_) (fun c_2 => ?_)
      · have hkn : k = nA := by
          rcases Nat.lt_or_ge k nA with q | q
          · exact absurd (by rw [e_1] at c_2; exact c_2) (nI_ge q (by omega))
          · omega
        subst hkn
        have hpd9 := pd_N (cx := [oX12 g0 m_refused m_kind m_figure m_weight m_got m_setting men msy mdn m_tape m_letter m_letterAt m_told tp mat stm m_kept him 0 (nI (c0 + k)) m_price m_offer m_gets m_yes m_buys m_ends m_carried m_row rm m_keptRow m_likeGets m_likePrice m_ahead, cI aC m_kept 100 kp, cI aC oa k kc]) hP hD [0, 1, 2] (by decide) rfl
        have hP9 := hpd9.1
        have hD9 := hpd9.2
        refine W.widen (k := 0) (n := 0) (by omega) (by omega) ?_
        exact W.vret hx hb hr (fun t ht hW => ⟨⟨(kc), rfl, hkc, by rw [ht]; exact hP9, va_K.moved hW.alike hK, hD9⟩, hS.F ht⟩) hS.2.2 dX12_passes_58
      · have hlt : k < nA := by
          rcases Nat.lt_or_ge k nA with q | q
          · exact q
          · exact absurd (by rw [e_1]; exact nI_le q (by omega)) c_2
        refine lv_aload_n hx hb dX12_passes_8 rfl (lv_at hl 0 rfl) ?_
        refine va_get (D := (dC, dI)) (ci := 12) (v := Value.int 0) (C := RX12) (T := TX12) (N := 33) hx hb hts inX12 hown hK hP 0 rfl rfl 18 (by decide) (hts _ (gw kw_735 rfl)) (fun _ h9 => h9) rfl dX12_passes_9 ?_
        refine lv_if_eq (tgt := 30) hx hb dX12_passes_12 (by decide) (fun c_3 => ?_) (fun c_3 => ?_)
        · refine lv_aload_n hx hb dX12_passes_30 rfl (lv_at hl 1 rfl) ?_
          refine lv_iload_n hx hb dX12_passes_31 rfl (lv_at hl 2 rfl) ?_
          refine lv_aload_n hx hb dX12_passes_32 rfl (lv_at hl 0 rfl) ?_
          refine va_get (D := (dC, dI)) (ci := 12) (v := Value.ref m_kept) (C := RX12) (T := TX12) (N := 33) hx hb hts inX12 hown hK hP 0 rfl rfl 16 (by decide) (hts _ (gw kw_733 rfl)) (fun _ h9 => h9) rfl dX12_passes_33 ?_
          refine lv_aload_n hx hb dX12_passes_36 rfl (lv_at hl 0 rfl) ?_
          refine va_get (D := (dC, dI)) (ci := 12) (v := Value.int (nI (c0 + k))) (C := RX12) (T := TX12) (N := 33) hx hb hts inX12 hown hK hP 0 rfl rfl 19 (by decide) (hts _ (gw kw_736 rfl)) (fun _ h9 => h9) rfl dX12_passes_37 ?_
          have h_4 : vp_in (nI (c0 + k)) 100 := vp_in_nI (by omega) (by omega)
          refine va_iald hx hb hK hP 1 0 rfl rfl h_4 dX12_passes_40 ?_
          refine lv_topi (fun x_5 e_5 => ?_)
          have h_6 : vp_in (nI k) nA := vp_in_nI (by omega) (by omega)
          refine va_iast hx hb hK hP hD hS 2 0 rfl rfl h_6 dX12_passes_41 (fun H locs hP hD hS => ?_)
          obtain ⟨f_7, e_f_7⟩ : ∃ y : Nat → Int32, y = upd kc (nI k : Int32).toNatClampNeg x_5 := ⟨_, rfl⟩
          have hpd9 : PDx (dC, dI) classes A H [oX12 g0 m_refused m_kind m_figure m_weight m_got m_setting men msy mdn m_tape m_letter m_letterAt m_told tp mat stm m_kept him 0 (nI (c0 + k)) m_price m_offer m_gets m_yes m_buys m_ends m_carried m_row rm m_keptRow m_likeGets m_likePrice m_ahead, cI aC m_kept 100 kp, cI aC oa nA f_7] := by rw [e_f_7]; exact ⟨hP, hD⟩
          have hP := hpd9.1
          have hD := hpd9.2
          clear hpd9
          refine lv_aload_n hx hb dX12_passes_42 rfl (lv_at hl 0 rfl) ?_
          refine lv_dup hx hb dX12_passes_43 rfl ?_
          refine va_get (D := (dC, dI)) (ci := 12) (v := Value.int (nI (c0 + k))) (C := RX12) (T := TX12) (N := 33) hx hb hts inX12 hown hK hP 0 rfl rfl 19 (by decide) (hts _ (gw kw_736 rfl)) (fun _ h9 => h9) rfl dX12_passes_44 ?_
          refine lv_iconst (v := 1) hx hb dX12_passes_47 (by decide) ?_
          refine lv_iadd hx hb dX12_passes_48 ?_
          refine lv_topi (fun x_8 e_8 => ?_)
          refine va_put (D := (dC, dI)) (ci := 12) (v := Value.int x_8) (ty := .int) (C := RX12) (T := TX12) (N := 33) hx hb hts inX12 tyX12 tyX12_ok nmX12 hown hK hP hD hS 0 rfl rfl 19 (by decide) (hts _ (gw kw_736 rfl)) (fun _ h9 => h9) rfl (by decide +kernel) rfl rfl (Nat.le_of_ble_eq_true rfl) dX12_passes_49 (fun H locs hP hD hS => ?_)
          have hpd9 : PDx (dC, dI) classes A H [oX12 g0 m_refused m_kind m_figure m_weight m_got m_setting men msy mdn m_tape m_letter m_letterAt m_told tp mat stm m_kept him 0 x_8 m_price m_offer m_gets m_yes m_buys m_ends m_carried m_row rm m_keptRow m_likeGets m_likePrice m_ahead, cI aC m_kept 100 kp, cI aC oa nA f_7] := ⟨hP, hD⟩
          have hP := hpd9.1
          have hD := hpd9.2
          clear hpd9
          have h9 : x_8 = nI (c0 + (k + 1)) := by rw [e_8, nI_1]; rfl
          subst h9
          obtain ⟨x_9, e_9⟩ : ∃ y : Int32, y = (nI k) + 1 := ⟨_, rfl⟩
          refine lv_iinc (v := x_9) (lv' := [(2, Value.int x_9), (0, Value.ref g0), (1, Value.ref oa)]) hx hb dX12_passes_52 hl (k := 2) rfl (by rw [e_9]; rfl) (by decide) rfl (fun ls hl => ?_)
          have h9 : x_9 = nI (k + 1) := by rw [e_9, nI_1]
          subst h9
          refine lv_goto (tgt := 2) hx hb dX12_passes_55 (by decide) ?_
          exact ih_2 (k + 1) f_7 (by omega) (by omega) (fun j hj => by rw [e_f_7, nI_clamp (by omega)]; by_cases e : j = k <;> first | (rw [e, pk_us, e_5, nI_clamp (by omega)]; done) | (rw [pk_un e]; exact hkc j (by omega))) _ _ _ (hP.sub [0, 1, 2] rfl) (hD.sub [0, 1, 2] (by decide) rfl) hS (lv_sub hl [1, 2, 0] rfl)
        · exact absurd rfl c_3
  exact lp_2 ((nA - 0) + 1) 0 of (Nat.lt_succ_self _) (Nat.zero_le _) (fun j hj => by omega) _ _ _ (hP.sub [0, 1, 2] rfl) (hD.sub [0, 1, 2] (by decide) rfl) hS (lv_sub hl [1, 2, 0] rfl)

set_option maxHeartbeats 1000000 in
set_option maxRecDepth 100000 in
/-- X12_passOne_l -/
theorem c_X12_passOne_l (l : Launch) (dC : Nat → ClassId) (dI : Nat → Nat → Nat) (aC : Nat → ClassId) (sz : Nat) (g0 : Nat) (m_refused : Nat) (m_kind : Nat) (m_figure : Nat) (m_weight : Nat) (m_got : Nat) (m_setting : Nat) (m_tape : Nat) (m_letter : Nat) (m_letterAt : Nat) (m_told : Nat) (m_kept : Nat) (m_price : Nat) (m_offer : Nat) (m_gets : Nat) (m_yes : Nat) (m_buys : Nat) (m_ends : Nat) (m_carried : Nat) (m_row : Nat) (m_keptRow : Nat) (m_likeGets : Nat) (m_likePrice : Nat) (m_ahead : Nat) (men : Int32) (msy : Int32) (mdn : Int32) (tp : Int32) (mat : Int32) (stm : Int32) (him : Int32) (rm : Int32) (v : Int32) (c0 : Nat) (kp : Nat → Int32) (hc : c0 < 100) : Met l yX12_passOne (wW yX12_passOne cX12_passOne 3 (some .int)) ({ frames := 0, cells := 0, slots := 0, locals := 0 } : Room) (va_Pc [Value.ref g0, Value.int v] (fun U => U.heap.size = sz ∧ va_P (dC, dI) classes [oX12 g0 m_refused m_kind m_figure m_weight m_got m_setting men msy mdn m_tape m_letter m_letterAt m_told tp mat stm m_kept him 0 (nI c0) m_price m_offer m_gets m_yes m_buys m_ends m_carried m_row rm m_keptRow m_likeGets m_likePrice m_ahead, cI aC m_kept 100 kp] U.heap ∧ va_K (dC, dI) classes (TY aC) U ∧ va_D (fun _ => True) [oX12 g0 m_refused m_kind m_figure m_weight m_got m_setting men msy mdn m_tape m_letter m_letterAt m_told tp mat stm m_kept him 0 (nI c0) m_price m_offer m_gets m_yes m_buys m_ends m_carried m_row rm m_keptRow m_likeGets m_likePrice m_ahead, cI aC m_kept 100 kp] ∧ NX U)) (va_Qi (fun (r : Int32) (_ : Unit) => r = kp c0) (fun (_ : Unit) (t : State) => va_P (dC, dI) classes [oX12 g0 m_refused m_kind m_figure m_weight m_got m_setting men msy mdn m_tape m_letter m_letterAt m_told tp mat stm m_kept him 0 (nI (c0 + 1)) m_price m_offer m_gets m_yes m_buys m_ends m_carried m_row rm m_keptRow m_likeGets m_likePrice m_ahead, cI aC m_kept 100 kp] t.heap ∧ va_K (dC, dI) classes (TY aC) t ∧ va_D (va_A [oX12 g0 m_refused m_kind m_figure m_weight m_got m_setting men msy mdn m_tape m_letter m_letterAt m_told tp mat stm m_kept him 0 (nI c0) m_price m_offer m_gets m_yes m_buys m_ends m_carried m_row rm m_keptRow m_likeGets m_likePrice m_ahead, cI aC m_kept 100 kp] sz) [oX12 g0 m_refused m_kind m_figure m_weight m_got m_setting men msy mdn m_tape m_letter m_letterAt m_told tp mat stm m_kept him 0 (nI (c0 + 1)) m_price m_offer m_gets m_yes m_buys m_ends m_carried m_row rm m_keptRow m_likeGets m_likePrice m_ahead, cI aC m_kept 100 kp]) (va_A [oX12 g0 m_refused m_kind m_figure m_weight m_got m_setting men msy mdn m_tape m_letter m_letterAt m_told tp mat stm m_kept him 0 (nI c0) m_price m_offer m_gets m_yes m_buys m_ends m_carried m_row rm m_keptRow m_likeGets m_likePrice m_ahead, cI aC m_kept 100 kp] sz)) 0 0 (va_A [oX12 g0 m_refused m_kind m_figure m_weight m_got m_setting men msy mdn m_tape m_letter m_letterAt m_told tp mat stm m_kept him 0 (nI c0) m_price m_offer m_gets m_yes m_buys m_ends m_carried m_row rm m_keptRow m_likeGets m_likePrice m_ahead, cI aC m_kept 100 kp] sz) := by
  refine Met.ofW (cc := cX12_passOne) (maxL := 3) (ret := (some .int)) (by decide) rfl ?_
  intro p e s m args below meth c s₁ B hml hv
  obtain ⟨rfl, hsz, hP, hK, hD0, hN⟩ := hv
  have hx := B.exec
  have hb := B.bytes
  have hr := B.returns
  have hts0 := atoms_spec (ws := (wW yX12_passOne cX12_passOne 3 (some .int))) B.pre
  have hts : ∀ w9 ∈ lw_G, w9.before ([Value.ref g0, Value.int v] : List Value).toArray s = true := fun w9 h9 => hts0 w9 (List.mem_cons_of_mem _ h9)
  have hown : s.vm.findClass RX12 = some m.cls := findClass_of_methodNamed (x := yX12_passOne) B.named
  have hlocks := B.notSynchronized
  subst hsz
  have hD := hD0.self (sz := s.heap.size)
  generalize hAe : va_A [oX12 g0 m_refused m_kind m_figure m_weight m_got m_setting men msy mdn m_tape m_letter m_letterAt m_told tp mat stm m_kept him 0 (nI c0) m_price m_offer m_gets m_yes m_buys m_ends m_carried m_row rm m_keptRow m_likeGets m_likePrice m_ahead, cI aC m_kept 100 kp] s.heap.size = A at hD ⊢
  have hA : ∀ q : Nat, s.heap.size ≤ q → A q := fun q h => by rw [← hAe]; exact Or.inr h
  obtain ⟨H, hHe⟩ : ∃ H : Heap, H = s.heap := ⟨_, rfl⟩
  have hS : va_S A s.heap H [] := by rw [hHe]; exact va_S.rf
  have hP : va_P (dC, dI) classes [oX12 g0 m_refused m_kind m_figure m_weight m_got m_setting men msy mdn m_tape m_letter m_letterAt m_told tp mat stm m_kept him 0 (nI c0) m_price m_offer m_gets m_yes m_buys m_ends m_carried m_row rm m_keptRow m_likeGets m_likePrice m_ahead, cI aC m_kept 100 kp] H := by rw [hHe]; exact hP
  have hl := lv_entry ([Value.ref g0, Value.int v]) (n := 3) (Nat.le_of_ble_eq_true rfl)
  rw [lg_entry_eq]
  generalize (lg_sl ([Value.ref g0, Value.int v]) ++ List.replicate (3 - (lg_sl ([Value.ref g0, Value.int v])).length) Slot.unset).toArray = ls at hl ⊢
  have hl : lv_has ls 3 [(0, Value.ref g0), (1, Value.int v)] := hl
  rw [← hHe]
  refine lv_aload_n hx hb dX12_passOne_0 rfl (lv_at hl 0 rfl) ?_
  refine va_get (D := (dC, dI)) (ci := 12) (v := Value.int 0) (C := RX12) (T := TX12) (N := 33) hx hb hts inX12 hown hK hP 0 rfl rfl 18 (by decide) (hts _ (gw kw_735 rfl)) (fun _ h9 => h9) rfl dX12_passOne_1 ?_
  refine lv_if_eq (tgt := 11) hx hb dX12_passOne_4 (by decide) (fun c_1 => ?_) (fun c_1 => ?_)
  · refine lv_aload_n hx hb dX12_passOne_11 rfl (lv_at hl 0 rfl) ?_
    refine va_get (D := (dC, dI)) (ci := 12) (v := Value.ref m_kept) (C := RX12) (T := TX12) (N := 33) hx hb hts inX12 hown hK hP 0 rfl rfl 16 (by decide) (hts _ (gw kw_733 rfl)) (fun _ h9 => h9) rfl dX12_passOne_12 ?_
    refine lv_aload_n hx hb dX12_passOne_15 rfl (lv_at hl 0 rfl) ?_
    refine va_get (D := (dC, dI)) (ci := 12) (v := Value.int (nI c0)) (C := RX12) (T := TX12) (N := 33) hx hb hts inX12 hown hK hP 0 rfl rfl 19 (by decide) (hts _ (gw kw_736 rfl)) (fun _ h9 => h9) rfl dX12_passOne_16 ?_
    have h_2 : vp_in (nI c0) 100 := vp_in_nI (by omega) (by omega)
    refine va_iald hx hb hK hP 1 0 rfl rfl h_2 dX12_passOne_19 ?_
    refine lv_topi (fun x_3 e_3 => ?_)
    refine lv_istore_n (lv' := [(2, Value.int x_3), (0, Value.ref g0), (1, Value.int v)]) hx hb dX12_passOne_20 rfl hl (by decide) rfl (fun ls hl => ?_)
    refine lv_aload_n hx hb dX12_passOne_21 rfl (lv_at hl 1 rfl) ?_
    refine va_get (D := (dC, dI)) (ci := 12) (v := Value.int 0) (C := RX12) (T := TX12) (N := 33) hx hb hts inX12 hown hK hP 0 rfl rfl 18 (by decide) (hts _ (gw kw_735 rfl)) (fun _ h9 => h9) rfl dX12_passOne_22 ?_
    refine lv_if_eq (tgt := 38) hx hb dX12_passOne_25 (by decide) (fun c_4 => ?_) (fun c_4 => ?_)
    · refine lv_aload_n hx hb dX12_passOne_38 rfl (lv_at hl 1 rfl) ?_
      refine lv_dup hx hb dX12_passOne_39 rfl ?_
      refine va_get (D := (dC, dI)) (ci := 12) (v := Value.int (nI c0)) (C := RX12) (T := TX12) (N := 33) hx hb hts inX12 hown hK hP 0 rfl rfl 19 (by decide) (hts _ (gw kw_736 rfl)) (fun _ h9 => h9) rfl dX12_passOne_40 ?_
      refine lv_iconst (v := 1) hx hb dX12_passOne_43 (by decide) ?_
      refine lv_iadd hx hb dX12_passOne_44 ?_
      refine lv_topi (fun x_5 e_5 => ?_)
      refine va_put (D := (dC, dI)) (ci := 12) (v := Value.int x_5) (ty := .int) (C := RX12) (T := TX12) (N := 33) hx hb hts inX12 tyX12 tyX12_ok nmX12 hown hK hP hD hS 0 rfl rfl 19 (by decide) (hts _ (gw kw_736 rfl)) (fun _ h9 => h9) rfl (by decide +kernel) rfl rfl (Nat.le_of_ble_eq_true rfl) dX12_passOne_45 (fun H locs hP hD hS => ?_)
      have hpd9 : PDx (dC, dI) classes A H [oX12 g0 m_refused m_kind m_figure m_weight m_got m_setting men msy mdn m_tape m_letter m_letterAt m_told tp mat stm m_kept him 0 x_5 m_price m_offer m_gets m_yes m_buys m_ends m_carried m_row rm m_keptRow m_likeGets m_likePrice m_ahead, cI aC m_kept 100 kp] := ⟨hP, hD⟩
      have hP := hpd9.1
      have hD := hpd9.2
      clear hpd9
      have h9 : x_5 = nI (c0 + 1) := by rw [e_5, nI_1]
      subst h9
      refine lv_iload_n hx hb dX12_passOne_48 rfl (lv_at hl 0 rfl) ?_
      have hpd9 := pd_N (cx := [oX12 g0 m_refused m_kind m_figure m_weight m_got m_setting men msy mdn m_tape m_letter m_letterAt m_told tp mat stm m_kept him 0 (nI (c0 + 1)) m_price m_offer m_gets m_yes m_buys m_ends m_carried m_row rm m_keptRow m_likeGets m_likePrice m_ahead, cI aC m_kept 100 kp]) hP hD [0, 1] (by decide) rfl
      have hP9 := hpd9.1
      have hD9 := hpd9.2
      refine W.widen (k := 0) (n := 0) (by omega) (by omega) ?_
      exact W.iret (v := x_3) hx hb hr (fun t ht hW => ⟨⟨x_3, (), rfl, by rw [e_3, nI_clamp (by omega)], by rw [ht]; exact hP9, va_K.moved hW.alike hK, hD9⟩, hS.F ht⟩) hS.2.2 dX12_passOne_49
    · exact absurd rfl c_4
  · exact absurd rfl c_1

set_option maxHeartbeats 1000000 in
set_option maxRecDepth 100000 in
/-- X12_passesAll_k -/
theorem c_X12_passesAll_k (l : Launch) (dC : Nat → ClassId) (dI : Nat → Nat → Nat) (aC : Nat → ClassId) (sz : Nat) (g0 : Nat) (m_refused : Nat) (m_kind : Nat) (m_figure : Nat) (m_weight : Nat) (m_got : Nat) (m_setting : Nat) (m_tape : Nat) (m_letter : Nat) (m_letterAt : Nat) (m_told : Nat) (m_kept : Nat) (m_price : Nat) (m_offer : Nat) (m_gets : Nat) (m_yes : Nat) (m_buys : Nat) (m_ends : Nat) (m_carried : Nat) (m_row : Nat) (m_keptRow : Nat) (m_likeGets : Nat) (m_likePrice : Nat) (m_ahead : Nat) (men : Int32) (msy : Int32) (mdn : Int32) (tp : Int32) (mat : Int32) (stm : Int32) (him : Int32) (ki : Int32) (crs : Int32) (rm : Int32) (kp : Nat → Int32) (wh : Nat) (kf : Nat → Int32) (ff : Nat → Int32) (wf : Nat → Int32) (pf : Nat → Int32) (stf : Nat → Int32) (hwh : wh ≤ 1) : Met l yX12_passesAll (wW yX12_passesAll cX12_passesAll 3 (none : Option FieldType)) ({ frames := 1, cells := 0, slots := 0, locals := 22 } : Room) (va_Pc [Value.ref g0, Value.int (nI wh), Value.int 1] (fun U => U.heap.size = sz ∧ va_P (dC, dI) classes [oX12 g0 m_refused m_kind m_figure m_weight m_got m_setting men msy mdn m_tape m_letter m_letterAt m_told tp mat stm m_kept him ki crs m_price m_offer m_gets m_yes m_buys m_ends m_carried m_row rm m_keptRow m_likeGets m_likePrice m_ahead, cI aC m_kept 100 kp, cI aC m_kind 9 kf, cI aC m_figure 9 ff, cI aC m_weight 9 wf, cI aC m_got 8 pf, cI aC m_setting 5 stf] U.heap ∧ va_K (dC, dI) classes (TY aC) U ∧ va_D (fun _ => True) [oX12 g0 m_refused m_kind m_figure m_weight m_got m_setting men msy mdn m_tape m_letter m_letterAt m_told tp mat stm m_kept him ki crs m_price m_offer m_gets m_yes m_buys m_ends m_carried m_row rm m_keptRow m_likeGets m_likePrice m_ahead, cI aC m_kept 100 kp, cI aC m_kind 9 kf, cI aC m_figure 9 ff, cI aC m_weight 9 wf, cI aC m_got 8 pf, cI aC m_setting 5 stf] ∧ NX U)) (va_Qv (fun (u : Int32 × (Nat → Int32)) => match u with | (cu2, kq) => PK (50 * wh) kq kf ff wf pf stf men msy mdn ∧ ∀ q, q < 50 * wh ∨ 50 * wh + 43 ≤ q → kq q = kp q) (fun (u : Int32 × (Nat → Int32)) (t : State) => match u with | (cu2, kq) => va_P (dC, dI) classes [oX12 g0 m_refused m_kind m_figure m_weight m_got m_setting men msy mdn m_tape m_letter m_letterAt m_told tp mat stm m_kept him 1 cu2 m_price m_offer m_gets m_yes m_buys m_ends m_carried m_row rm m_keptRow m_likeGets m_likePrice m_ahead, cI aC m_kept 100 kq, cI aC m_kind 9 kf, cI aC m_figure 9 ff, cI aC m_weight 9 wf, cI aC m_got 8 pf, cI aC m_setting 5 stf] t.heap ∧ va_K (dC, dI) classes (TY aC) t ∧ va_D (va_A [oX12 g0 m_refused m_kind m_figure m_weight m_got m_setting men msy mdn m_tape m_letter m_letterAt m_told tp mat stm m_kept him ki crs m_price m_offer m_gets m_yes m_buys m_ends m_carried m_row rm m_keptRow m_likeGets m_likePrice m_ahead, cI aC m_kept 100 kp, cI aC m_kind 9 kf, cI aC m_figure 9 ff, cI aC m_weight 9 wf, cI aC m_got 8 pf, cI aC m_setting 5 stf] sz) [oX12 g0 m_refused m_kind m_figure m_weight m_got m_setting men msy mdn m_tape m_letter m_letterAt m_told tp mat stm m_kept him 1 cu2 m_price m_offer m_gets m_yes m_buys m_ends m_carried m_row rm m_keptRow m_likeGets m_likePrice m_ahead, cI aC m_kept 100 kq, cI aC m_kind 9 kf, cI aC m_figure 9 ff, cI aC m_weight 9 wf, cI aC m_got 8 pf, cI aC m_setting 5 stf]) (va_A [oX12 g0 m_refused m_kind m_figure m_weight m_got m_setting men msy mdn m_tape m_letter m_letterAt m_told tp mat stm m_kept him ki crs m_price m_offer m_gets m_yes m_buys m_ends m_carried m_row rm m_keptRow m_likeGets m_likePrice m_ahead, cI aC m_kept 100 kp, cI aC m_kind 9 kf, cI aC m_figure 9 ff, cI aC m_weight 9 wf, cI aC m_got 8 pf, cI aC m_setting 5 stf] sz)) 0 0 (va_A [oX12 g0 m_refused m_kind m_figure m_weight m_got m_setting men msy mdn m_tape m_letter m_letterAt m_told tp mat stm m_kept him ki crs m_price m_offer m_gets m_yes m_buys m_ends m_carried m_row rm m_keptRow m_likeGets m_likePrice m_ahead, cI aC m_kept 100 kp, cI aC m_kind 9 kf, cI aC m_figure 9 ff, cI aC m_weight 9 wf, cI aC m_got 8 pf, cI aC m_setting 5 stf] sz) := by
  refine Met.ofW (cc := cX12_passesAll) (maxL := 3) (ret := (none : Option FieldType)) (by decide) rfl ?_
  intro p e s m args below meth c s₁ B hml hv
  obtain ⟨rfl, hsz, hP, hK, hD0, hN⟩ := hv
  have hx := B.exec
  have hb := B.bytes
  have hr := B.returns
  have hts0 := atoms_spec (ws := (wW yX12_passesAll cX12_passesAll 3 (none : Option FieldType))) B.pre
  have hts : ∀ w9 ∈ lw_G, w9.before ([Value.ref g0, Value.int (nI wh), Value.int 1] : List Value).toArray s = true := fun w9 h9 => hts0 w9 (List.mem_cons_of_mem _ h9)
  have hown : s.vm.findClass RX12 = some m.cls := findClass_of_methodNamed (x := yX12_passesAll) B.named
  have hlocks := B.notSynchronized
  subst hsz
  have hD := hD0.self (sz := s.heap.size)
  generalize hAe : va_A [oX12 g0 m_refused m_kind m_figure m_weight m_got m_setting men msy mdn m_tape m_letter m_letterAt m_told tp mat stm m_kept him ki crs m_price m_offer m_gets m_yes m_buys m_ends m_carried m_row rm m_keptRow m_likeGets m_likePrice m_ahead, cI aC m_kept 100 kp, cI aC m_kind 9 kf, cI aC m_figure 9 ff, cI aC m_weight 9 wf, cI aC m_got 8 pf, cI aC m_setting 5 stf] s.heap.size = A at hD ⊢
  have hA : ∀ q : Nat, s.heap.size ≤ q → A q := fun q h => by rw [← hAe]; exact Or.inr h
  obtain ⟨H, hHe⟩ : ∃ H : Heap, H = s.heap := ⟨_, rfl⟩
  have hS : va_S A s.heap H [] := by rw [hHe]; exact va_S.rf
  have hP : va_P (dC, dI) classes [oX12 g0 m_refused m_kind m_figure m_weight m_got m_setting men msy mdn m_tape m_letter m_letterAt m_told tp mat stm m_kept him ki crs m_price m_offer m_gets m_yes m_buys m_ends m_carried m_row rm m_keptRow m_likeGets m_likePrice m_ahead, cI aC m_kept 100 kp, cI aC m_kind 9 kf, cI aC m_figure 9 ff, cI aC m_weight 9 wf, cI aC m_got 8 pf, cI aC m_setting 5 stf] H := by rw [hHe]; exact hP
  have hl := lv_entry ([Value.ref g0, Value.int (nI wh), Value.int 1]) (n := 3) (Nat.le_of_ble_eq_true rfl)
  rw [lg_entry_eq]
  generalize (lg_sl ([Value.ref g0, Value.int (nI wh), Value.int 1]) ++ List.replicate (3 - (lg_sl ([Value.ref g0, Value.int (nI wh), Value.int 1])).length) Slot.unset).toArray = ls at hl ⊢
  have hl : lv_has ls 3 [(0, Value.ref g0), (1, Value.int (nI wh)), (2, Value.int 1)] := hl
  rw [← hHe]
  refine lv_aload_n hx hb dX12_passesAll_0 rfl (lv_at hl 0 rfl) ?_
  refine lv_bipush (v := 50) hx hb dX12_passesAll_1 (by decide) ?_
  refine lv_iload_n hx hb dX12_passesAll_3 rfl (lv_at hl 1 rfl) ?_
  refine lv_imul hx hb dX12_passesAll_4 ?_
  refine lv_topi (fun x_1 e_1 => ?_)
  have h9 : x_1 = nI (50 * wh) := by rw [e_1]; exact pk_mul 50 wh
  subst h9
  refine va_put (D := (dC, dI)) (ci := 12) (v := Value.int (nI (50 * wh))) (ty := .int) (C := RX12) (T := TX12) (N := 33) hx hb hts inX12 tyX12 tyX12_ok nmX12 hown hK hP hD hS 0 rfl rfl 19 (by decide) (hts _ (gw kw_736 rfl)) (fun _ h9 => h9) rfl (by decide +kernel) rfl rfl (Nat.le_of_ble_eq_true rfl) dX12_passesAll_5 (fun H locs hP hD hS => ?_)
  have hpd9 : PDx (dC, dI) classes A H [oX12 g0 m_refused m_kind m_figure m_weight m_got m_setting men msy mdn m_tape m_letter m_letterAt m_told tp mat stm m_kept him ki (nI (50 * wh)) m_price m_offer m_gets m_yes m_buys m_ends m_carried m_row rm m_keptRow m_likeGets m_likePrice m_ahead, cI aC m_kept 100 kp, cI aC m_kind 9 kf, cI aC m_figure 9 ff, cI aC m_weight 9 wf, cI aC m_got 8 pf, cI aC m_setting 5 stf] := ⟨hP, hD⟩
  have hP := hpd9.1
  have hD := hpd9.2
  clear hpd9
  refine lv_aload_n hx hb dX12_passesAll_8 rfl (lv_at hl 0 rfl) ?_
  refine lv_iload_n hx hb dX12_passesAll_9 rfl (lv_at hl 2 rfl) ?_
  refine va_put (D := (dC, dI)) (ci := 12) (v := Value.int 1) (ty := .boolean) (C := RX12) (T := TX12) (N := 33) hx hb hts inX12 tyX12 tyX12_ok nmX12 hown hK hP hD hS 0 rfl rfl 18 (by decide) (hts _ (gw kw_735 rfl)) (fun _ h9 => h9) rfl (by decide +kernel) rfl rfl (Nat.le_of_ble_eq_true rfl) dX12_passesAll_10 (fun H locs hP hD hS => ?_)
  have hpd9 : PDx (dC, dI) classes A H [oX12 g0 m_refused m_kind m_figure m_weight m_got m_setting men msy mdn m_tape m_letter m_letterAt m_told tp mat stm m_kept him 1 (nI (50 * wh)) m_price m_offer m_gets m_yes m_buys m_ends m_carried m_row rm m_keptRow m_likeGets m_likePrice m_ahead, cI aC m_kept 100 kp, cI aC m_kind 9 kf, cI aC m_figure 9 ff, cI aC m_weight 9 wf, cI aC m_got 8 pf, cI aC m_setting 5 stf] := ⟨hP, hD⟩
  have hP := hpd9.1
  have hD := hpd9.2
  clear hpd9
  refine lv_aload_n hx hb dX12_passesAll_13 rfl (lv_at hl 0 rfl) ?_
  refine lv_aload_n hx hb dX12_passesAll_14 rfl (lv_at hl 0 rfl) ?_
  refine va_get (D := (dC, dI)) (ci := 12) (v := Value.ref m_kind) (C := RX12) (T := TX12) (N := 33) hx hb hts inX12 hown hK hP 0 rfl rfl 1 (by decide) (hts _ (gw kw_718 rfl)) (fun _ h9 => h9) rfl dX12_passesAll_15 ?_
  have hpd9 := pdf_N (cx := [oX12 g0 m_refused m_kind m_figure m_weight m_got m_setting men msy mdn m_tape m_letter m_letterAt m_told tp mat stm m_kept him 1 (nI (50 * wh)) m_price m_offer m_gets m_yes m_buys m_ends m_carried m_row rm m_keptRow m_likeGets m_likePrice m_ahead, cI aC m_kept 100 kp, cI aC m_kind 9 kf]) hP hD hS hA [0, 1, 2] (by decide) rfl
  have hPc := hpd9.1
  have hDc := hpd9.2.1
  have hFc := hpd9.2.2
  clear hpd9
  refine va_callv (va_runV (As := [Value.ref m_kind]) (rest := []) ⟨hx, hb, hml, hown, hts⟩ (c_X12_passes_k l dC dI aC H.size g0 m_refused m_kind m_figure m_weight m_got m_setting m_tape m_letter m_letterAt m_told m_kept m_price m_offer m_gets m_yes m_buys m_ends m_carried m_row m_keptRow m_likeGets m_likePrice m_ahead men msy mdn tp mat stm him rm m_kind 9 (50 * wh) kf kp (by omega)) ⟨(callB_of 1 hts (gG kw_854) rfl rfl rfl (hts _ (gw kw_13 rfl)) (hts _ (gw kw_851 rfl)) hd_X12_passes ⟨Nat.le_of_ble_eq_true rfl, Nat.le_of_ble_eq_true rfl⟩), (hts _ (gw kw_853 rfl)), (hts _ (gw ks_40 rfl))⟩ ⟨fb_std, va_recv (q := (RX12, TX12, 33)) hK hPc (ci := 12) (q0 := 0) rfl rfl, pre_std hPc hK hDc hN⟩ rfl rfl hl.1 rfl (lv_room (Nat.le_of_ble_eq_true rfl)) dX12_passesAll_18 ⟨Nat.le_of_ble_eq_true rfl, Nat.le_of_ble_eq_true rfl⟩) hS (fun q _ h => hFc q h) hFc (fun u9 t9 H1 locs ht hvm hw_2 hB hz1 hk1 hS => ?_)
  obtain ⟨u_3, rfl⟩ : ∃ z, z = u9 := ⟨_, rfl⟩
  obtain ⟨hP1, hK1, hD1⟩ := hB
  rw [ht] at hP1
  clear hK1
  try dsimp only at hw_2
  have hpd9 : PDx (dC, dI) classes A H1 [cI aC m_figure 9 ff, cI aC m_weight 9 wf, cI aC m_got 8 pf, cI aC m_setting 5 stf, oX12 g0 m_refused m_kind m_figure m_weight m_got m_setting men msy mdn m_tape m_letter m_letterAt m_told tp mat stm m_kept him 1 (nI ((50 * wh) + 9)) m_price m_offer m_gets m_yes m_buys m_ends m_carried m_row rm m_keptRow m_likeGets m_likePrice m_ahead, cI aC m_kept 100 u_3, cI aC m_kind 9 kf] := jn_N (wr := [cI aC m_figure 9 ff, cI aC m_weight 9 wf, cI aC m_got 8 pf, cI aC m_setting 5 stf]) hFc hk1 hP1 hD1 hP hD [0, 1, 2] [3, 4, 5, 6] rfl rfl (by decide) (by decide)
  have hP := hpd9.1
  have hD := hpd9.2
  clear hpd9
  generalize H1 = H at hP hS ⊢
  clear hPc hDc hFc hz1 hk1 hP1 hD1 ht hvm
  have hq_18 := hw_2
  have hP : va_P (dC, dI) classes [cI aC m_figure 9 ff, cI aC m_weight 9 wf, cI aC m_got 8 pf, cI aC m_setting 5 stf, oX12 g0 m_refused m_kind m_figure m_weight m_got m_setting men msy mdn m_tape m_letter m_letterAt m_told tp mat stm m_kept him 1 (nI (50 * wh + 9)) m_price m_offer m_gets m_yes m_buys m_ends m_carried m_row rm m_keptRow m_likeGets m_likePrice m_ahead, cI aC m_kept 100 u_3, cI aC m_kind 9 kf] H := hP
  have hD : va_D A [cI aC m_figure 9 ff, cI aC m_weight 9 wf, cI aC m_got 8 pf, cI aC m_setting 5 stf, oX12 g0 m_refused m_kind m_figure m_weight m_got m_setting men msy mdn m_tape m_letter m_letterAt m_told tp mat stm m_kept him 1 (nI (50 * wh + 9)) m_price m_offer m_gets m_yes m_buys m_ends m_carried m_row rm m_keptRow m_likeGets m_likePrice m_ahead, cI aC m_kept 100 u_3, cI aC m_kind 9 kf] := hD
  refine lv_aload_n hx hb dX12_passesAll_21 rfl (lv_at hl 0 rfl) ?_
  refine lv_aload_n hx hb dX12_passesAll_22 rfl (lv_at hl 0 rfl) ?_
  refine va_get (D := (dC, dI)) (ci := 12) (v := Value.ref m_figure) (C := RX12) (T := TX12) (N := 33) hx hb hts inX12 hown hK hP 4 rfl rfl 2 (by decide) (hts _ (gw kw_719 rfl)) (fun _ h9 => h9) rfl dX12_passesAll_23 ?_
  have hpd9 := pdf_N (cx := [oX12 g0 m_refused m_kind m_figure m_weight m_got m_setting men msy mdn m_tape m_letter m_letterAt m_told tp mat stm m_kept him 1 (nI (50 * wh + 9)) m_price m_offer m_gets m_yes m_buys m_ends m_carried m_row rm m_keptRow m_likeGets m_likePrice m_ahead, cI aC m_kept 100 u_3, cI aC m_figure 9 ff]) hP hD hS hA [4, 5, 0] (by decide) rfl
  have hPc := hpd9.1
  have hDc := hpd9.2.1
  have hFc := hpd9.2.2
  clear hpd9
  refine va_callv (va_runV (As := [Value.ref m_figure]) (rest := []) ⟨hx, hb, hml, hown, hts⟩ (c_X12_passes_k l dC dI aC H.size g0 m_refused m_kind m_figure m_weight m_got m_setting m_tape m_letter m_letterAt m_told m_kept m_price m_offer m_gets m_yes m_buys m_ends m_carried m_row m_keptRow m_likeGets m_likePrice m_ahead men msy mdn tp mat stm him rm m_figure 9 (50 * wh + 9) ff u_3 (by omega)) ⟨(callB_of 1 hts (gG kw_854) rfl rfl rfl (hts _ (gw kw_13 rfl)) (hts _ (gw kw_851 rfl)) hd_X12_passes ⟨Nat.le_of_ble_eq_true rfl, Nat.le_of_ble_eq_true rfl⟩), (hts _ (gw kw_853 rfl)), (hts _ (gw ks_40 rfl))⟩ ⟨fb_std, va_recv (q := (RX12, TX12, 33)) hK hPc (ci := 12) (q0 := 0) rfl rfl, pre_std hPc hK hDc hN⟩ rfl rfl hl.1 rfl (lv_room (Nat.le_of_ble_eq_true rfl)) dX12_passesAll_26 ⟨Nat.le_of_ble_eq_true rfl, Nat.le_of_ble_eq_true rfl⟩) hS (fun q _ h => hFc q h) hFc (fun u9 t9 H1 locs ht hvm hw_4 hB hz1 hk1 hS => ?_)
  obtain ⟨u_5, rfl⟩ : ∃ z, z = u9 := ⟨_, rfl⟩
  obtain ⟨hP1, hK1, hD1⟩ := hB
  rw [ht] at hP1
  clear hK1
  try dsimp only at hw_4
  have hpd9 : PDx (dC, dI) classes A H1 [cI aC m_weight 9 wf, cI aC m_got 8 pf, cI aC m_setting 5 stf, cI aC m_kind 9 kf, oX12 g0 m_refused m_kind m_figure m_weight m_got m_setting men msy mdn m_tape m_letter m_letterAt m_told tp mat stm m_kept him 1 (nI ((50 * wh + 9) + 9)) m_price m_offer m_gets m_yes m_buys m_ends m_carried m_row rm m_keptRow m_likeGets m_likePrice m_ahead, cI aC m_kept 100 u_5, cI aC m_figure 9 ff] := jn_N (wr := [cI aC m_weight 9 wf, cI aC m_got 8 pf, cI aC m_setting 5 stf, cI aC m_kind 9 kf]) hFc hk1 hP1 hD1 hP hD [4, 5, 0] [1, 2, 3, 6] rfl rfl (by decide) (by decide)
  have hP := hpd9.1
  have hD := hpd9.2
  clear hpd9
  generalize H1 = H at hP hS ⊢
  clear hPc hDc hFc hz1 hk1 hP1 hD1 ht hvm
  have hq_26 := hw_4
  have hP : va_P (dC, dI) classes [cI aC m_weight 9 wf, cI aC m_got 8 pf, cI aC m_setting 5 stf, cI aC m_kind 9 kf, oX12 g0 m_refused m_kind m_figure m_weight m_got m_setting men msy mdn m_tape m_letter m_letterAt m_told tp mat stm m_kept him 1 (nI (50 * wh + 18)) m_price m_offer m_gets m_yes m_buys m_ends m_carried m_row rm m_keptRow m_likeGets m_likePrice m_ahead, cI aC m_kept 100 u_5, cI aC m_figure 9 ff] H := hP
  have hD : va_D A [cI aC m_weight 9 wf, cI aC m_got 8 pf, cI aC m_setting 5 stf, cI aC m_kind 9 kf, oX12 g0 m_refused m_kind m_figure m_weight m_got m_setting men msy mdn m_tape m_letter m_letterAt m_told tp mat stm m_kept him 1 (nI (50 * wh + 18)) m_price m_offer m_gets m_yes m_buys m_ends m_carried m_row rm m_keptRow m_likeGets m_likePrice m_ahead, cI aC m_kept 100 u_5, cI aC m_figure 9 ff] := hD
  refine lv_aload_n hx hb dX12_passesAll_29 rfl (lv_at hl 0 rfl) ?_
  refine lv_aload_n hx hb dX12_passesAll_30 rfl (lv_at hl 0 rfl) ?_
  refine va_get (D := (dC, dI)) (ci := 12) (v := Value.ref m_weight) (C := RX12) (T := TX12) (N := 33) hx hb hts inX12 hown hK hP 4 rfl rfl 3 (by decide) (hts _ (gw kw_720 rfl)) (fun _ h9 => h9) rfl dX12_passesAll_31 ?_
  have hpd9 := pdf_N (cx := [oX12 g0 m_refused m_kind m_figure m_weight m_got m_setting men msy mdn m_tape m_letter m_letterAt m_told tp mat stm m_kept him 1 (nI (50 * wh + 18)) m_price m_offer m_gets m_yes m_buys m_ends m_carried m_row rm m_keptRow m_likeGets m_likePrice m_ahead, cI aC m_kept 100 u_5, cI aC m_weight 9 wf]) hP hD hS hA [4, 5, 0] (by decide) rfl
  have hPc := hpd9.1
  have hDc := hpd9.2.1
  have hFc := hpd9.2.2
  clear hpd9
  refine va_callv (va_runV (As := [Value.ref m_weight]) (rest := []) ⟨hx, hb, hml, hown, hts⟩ (c_X12_passes_k l dC dI aC H.size g0 m_refused m_kind m_figure m_weight m_got m_setting m_tape m_letter m_letterAt m_told m_kept m_price m_offer m_gets m_yes m_buys m_ends m_carried m_row m_keptRow m_likeGets m_likePrice m_ahead men msy mdn tp mat stm him rm m_weight 9 (50 * wh + 18) wf u_5 (by omega)) ⟨(callB_of 1 hts (gG kw_854) rfl rfl rfl (hts _ (gw kw_13 rfl)) (hts _ (gw kw_851 rfl)) hd_X12_passes ⟨Nat.le_of_ble_eq_true rfl, Nat.le_of_ble_eq_true rfl⟩), (hts _ (gw kw_853 rfl)), (hts _ (gw ks_40 rfl))⟩ ⟨fb_std, va_recv (q := (RX12, TX12, 33)) hK hPc (ci := 12) (q0 := 0) rfl rfl, pre_std hPc hK hDc hN⟩ rfl rfl hl.1 rfl (lv_room (Nat.le_of_ble_eq_true rfl)) dX12_passesAll_34 ⟨Nat.le_of_ble_eq_true rfl, Nat.le_of_ble_eq_true rfl⟩) hS (fun q _ h => hFc q h) hFc (fun u9 t9 H1 locs ht hvm hw_6 hB hz1 hk1 hS => ?_)
  obtain ⟨u_7, rfl⟩ : ∃ z, z = u9 := ⟨_, rfl⟩
  obtain ⟨hP1, hK1, hD1⟩ := hB
  rw [ht] at hP1
  clear hK1
  try dsimp only at hw_6
  have hpd9 : PDx (dC, dI) classes A H1 [cI aC m_got 8 pf, cI aC m_setting 5 stf, cI aC m_kind 9 kf, cI aC m_figure 9 ff, oX12 g0 m_refused m_kind m_figure m_weight m_got m_setting men msy mdn m_tape m_letter m_letterAt m_told tp mat stm m_kept him 1 (nI ((50 * wh + 18) + 9)) m_price m_offer m_gets m_yes m_buys m_ends m_carried m_row rm m_keptRow m_likeGets m_likePrice m_ahead, cI aC m_kept 100 u_7, cI aC m_weight 9 wf] := jn_N (wr := [cI aC m_got 8 pf, cI aC m_setting 5 stf, cI aC m_kind 9 kf, cI aC m_figure 9 ff]) hFc hk1 hP1 hD1 hP hD [4, 5, 0] [1, 2, 3, 6] rfl rfl (by decide) (by decide)
  have hP := hpd9.1
  have hD := hpd9.2
  clear hpd9
  generalize H1 = H at hP hS ⊢
  clear hPc hDc hFc hz1 hk1 hP1 hD1 ht hvm
  have hq_34 := hw_6
  have hP : va_P (dC, dI) classes [cI aC m_got 8 pf, cI aC m_setting 5 stf, cI aC m_kind 9 kf, cI aC m_figure 9 ff, oX12 g0 m_refused m_kind m_figure m_weight m_got m_setting men msy mdn m_tape m_letter m_letterAt m_told tp mat stm m_kept him 1 (nI (50 * wh + 27)) m_price m_offer m_gets m_yes m_buys m_ends m_carried m_row rm m_keptRow m_likeGets m_likePrice m_ahead, cI aC m_kept 100 u_7, cI aC m_weight 9 wf] H := hP
  have hD : va_D A [cI aC m_got 8 pf, cI aC m_setting 5 stf, cI aC m_kind 9 kf, cI aC m_figure 9 ff, oX12 g0 m_refused m_kind m_figure m_weight m_got m_setting men msy mdn m_tape m_letter m_letterAt m_told tp mat stm m_kept him 1 (nI (50 * wh + 27)) m_price m_offer m_gets m_yes m_buys m_ends m_carried m_row rm m_keptRow m_likeGets m_likePrice m_ahead, cI aC m_kept 100 u_7, cI aC m_weight 9 wf] := hD
  refine lv_aload_n hx hb dX12_passesAll_37 rfl (lv_at hl 0 rfl) ?_
  refine lv_aload_n hx hb dX12_passesAll_38 rfl (lv_at hl 0 rfl) ?_
  refine va_get (D := (dC, dI)) (ci := 12) (v := Value.ref m_got) (C := RX12) (T := TX12) (N := 33) hx hb hts inX12 hown hK hP 4 rfl rfl 4 (by decide) (hts _ (gw kw_721 rfl)) (fun _ h9 => h9) rfl dX12_passesAll_39 ?_
  have hpd9 := pdf_N (cx := [oX12 g0 m_refused m_kind m_figure m_weight m_got m_setting men msy mdn m_tape m_letter m_letterAt m_told tp mat stm m_kept him 1 (nI (50 * wh + 27)) m_price m_offer m_gets m_yes m_buys m_ends m_carried m_row rm m_keptRow m_likeGets m_likePrice m_ahead, cI aC m_kept 100 u_7, cI aC m_got 8 pf]) hP hD hS hA [4, 5, 0] (by decide) rfl
  have hPc := hpd9.1
  have hDc := hpd9.2.1
  have hFc := hpd9.2.2
  clear hpd9
  refine va_callv (va_runV (As := [Value.ref m_got]) (rest := []) ⟨hx, hb, hml, hown, hts⟩ (c_X12_passes_k l dC dI aC H.size g0 m_refused m_kind m_figure m_weight m_got m_setting m_tape m_letter m_letterAt m_told m_kept m_price m_offer m_gets m_yes m_buys m_ends m_carried m_row m_keptRow m_likeGets m_likePrice m_ahead men msy mdn tp mat stm him rm m_got 8 (50 * wh + 27) pf u_7 (by omega)) ⟨(callB_of 1 hts (gG kw_854) rfl rfl rfl (hts _ (gw kw_13 rfl)) (hts _ (gw kw_851 rfl)) hd_X12_passes ⟨Nat.le_of_ble_eq_true rfl, Nat.le_of_ble_eq_true rfl⟩), (hts _ (gw kw_853 rfl)), (hts _ (gw ks_40 rfl))⟩ ⟨fb_std, va_recv (q := (RX12, TX12, 33)) hK hPc (ci := 12) (q0 := 0) rfl rfl, pre_std hPc hK hDc hN⟩ rfl rfl hl.1 rfl (lv_room (Nat.le_of_ble_eq_true rfl)) dX12_passesAll_42 ⟨Nat.le_of_ble_eq_true rfl, Nat.le_of_ble_eq_true rfl⟩) hS (fun q _ h => hFc q h) hFc (fun u9 t9 H1 locs ht hvm hw_8 hB hz1 hk1 hS => ?_)
  obtain ⟨u_9, rfl⟩ : ∃ z, z = u9 := ⟨_, rfl⟩
  obtain ⟨hP1, hK1, hD1⟩ := hB
  rw [ht] at hP1
  clear hK1
  try dsimp only at hw_8
  have hpd9 : PDx (dC, dI) classes A H1 [cI aC m_setting 5 stf, cI aC m_kind 9 kf, cI aC m_figure 9 ff, cI aC m_weight 9 wf, oX12 g0 m_refused m_kind m_figure m_weight m_got m_setting men msy mdn m_tape m_letter m_letterAt m_told tp mat stm m_kept him 1 (nI ((50 * wh + 27) + 8)) m_price m_offer m_gets m_yes m_buys m_ends m_carried m_row rm m_keptRow m_likeGets m_likePrice m_ahead, cI aC m_kept 100 u_9, cI aC m_got 8 pf] := jn_N (wr := [cI aC m_setting 5 stf, cI aC m_kind 9 kf, cI aC m_figure 9 ff, cI aC m_weight 9 wf]) hFc hk1 hP1 hD1 hP hD [4, 5, 0] [1, 2, 3, 6] rfl rfl (by decide) (by decide)
  have hP := hpd9.1
  have hD := hpd9.2
  clear hpd9
  generalize H1 = H at hP hS ⊢
  clear hPc hDc hFc hz1 hk1 hP1 hD1 ht hvm
  have hq_42 := hw_8
  have hP : va_P (dC, dI) classes [cI aC m_setting 5 stf, cI aC m_kind 9 kf, cI aC m_figure 9 ff, cI aC m_weight 9 wf, oX12 g0 m_refused m_kind m_figure m_weight m_got m_setting men msy mdn m_tape m_letter m_letterAt m_told tp mat stm m_kept him 1 (nI (50 * wh + 35)) m_price m_offer m_gets m_yes m_buys m_ends m_carried m_row rm m_keptRow m_likeGets m_likePrice m_ahead, cI aC m_kept 100 u_9, cI aC m_got 8 pf] H := hP
  have hD : va_D A [cI aC m_setting 5 stf, cI aC m_kind 9 kf, cI aC m_figure 9 ff, cI aC m_weight 9 wf, oX12 g0 m_refused m_kind m_figure m_weight m_got m_setting men msy mdn m_tape m_letter m_letterAt m_told tp mat stm m_kept him 1 (nI (50 * wh + 35)) m_price m_offer m_gets m_yes m_buys m_ends m_carried m_row rm m_keptRow m_likeGets m_likePrice m_ahead, cI aC m_kept 100 u_9, cI aC m_got 8 pf] := hD
  refine lv_aload_n hx hb dX12_passesAll_45 rfl (lv_at hl 0 rfl) ?_
  refine lv_aload_n hx hb dX12_passesAll_46 rfl (lv_at hl 0 rfl) ?_
  refine va_get (D := (dC, dI)) (ci := 12) (v := Value.ref m_setting) (C := RX12) (T := TX12) (N := 33) hx hb hts inX12 hown hK hP 4 rfl rfl 5 (by decide) (hts _ (gw kw_722 rfl)) (fun _ h9 => h9) rfl dX12_passesAll_47 ?_
  have hpd9 := pdf_N (cx := [oX12 g0 m_refused m_kind m_figure m_weight m_got m_setting men msy mdn m_tape m_letter m_letterAt m_told tp mat stm m_kept him 1 (nI (50 * wh + 35)) m_price m_offer m_gets m_yes m_buys m_ends m_carried m_row rm m_keptRow m_likeGets m_likePrice m_ahead, cI aC m_kept 100 u_9, cI aC m_setting 5 stf]) hP hD hS hA [4, 5, 0] (by decide) rfl
  have hPc := hpd9.1
  have hDc := hpd9.2.1
  have hFc := hpd9.2.2
  clear hpd9
  refine va_callv (va_runV (As := [Value.ref m_setting]) (rest := []) ⟨hx, hb, hml, hown, hts⟩ (c_X12_passes_k l dC dI aC H.size g0 m_refused m_kind m_figure m_weight m_got m_setting m_tape m_letter m_letterAt m_told m_kept m_price m_offer m_gets m_yes m_buys m_ends m_carried m_row m_keptRow m_likeGets m_likePrice m_ahead men msy mdn tp mat stm him rm m_setting 5 (50 * wh + 35) stf u_9 (by omega)) ⟨(callB_of 1 hts (gG kw_854) rfl rfl rfl (hts _ (gw kw_13 rfl)) (hts _ (gw kw_851 rfl)) hd_X12_passes ⟨Nat.le_of_ble_eq_true rfl, Nat.le_of_ble_eq_true rfl⟩), (hts _ (gw kw_853 rfl)), (hts _ (gw ks_40 rfl))⟩ ⟨fb_std, va_recv (q := (RX12, TX12, 33)) hK hPc (ci := 12) (q0 := 0) rfl rfl, pre_std hPc hK hDc hN⟩ rfl rfl hl.1 rfl (lv_room (Nat.le_of_ble_eq_true rfl)) dX12_passesAll_50 ⟨Nat.le_of_ble_eq_true rfl, Nat.le_of_ble_eq_true rfl⟩) hS (fun q _ h => hFc q h) hFc (fun u9 t9 H1 locs ht hvm hw_10 hB hz1 hk1 hS => ?_)
  obtain ⟨u_11, rfl⟩ : ∃ z, z = u9 := ⟨_, rfl⟩
  obtain ⟨hP1, hK1, hD1⟩ := hB
  rw [ht] at hP1
  clear hK1
  try dsimp only at hw_10
  have hpd9 : PDx (dC, dI) classes A H1 [cI aC m_kind 9 kf, cI aC m_figure 9 ff, cI aC m_weight 9 wf, cI aC m_got 8 pf, oX12 g0 m_refused m_kind m_figure m_weight m_got m_setting men msy mdn m_tape m_letter m_letterAt m_told tp mat stm m_kept him 1 (nI ((50 * wh + 35) + 5)) m_price m_offer m_gets m_yes m_buys m_ends m_carried m_row rm m_keptRow m_likeGets m_likePrice m_ahead, cI aC m_kept 100 u_11, cI aC m_setting 5 stf] := jn_N (wr := [cI aC m_kind 9 kf, cI aC m_figure 9 ff, cI aC m_weight 9 wf, cI aC m_got 8 pf]) hFc hk1 hP1 hD1 hP hD [4, 5, 0] [1, 2, 3, 6] rfl rfl (by decide) (by decide)
  have hP := hpd9.1
  have hD := hpd9.2
  clear hpd9
  generalize H1 = H at hP hS ⊢
  clear hPc hDc hFc hz1 hk1 hP1 hD1 ht hvm
  have hq_50 := hw_10
  have hP : va_P (dC, dI) classes [cI aC m_kind 9 kf, cI aC m_figure 9 ff, cI aC m_weight 9 wf, cI aC m_got 8 pf, oX12 g0 m_refused m_kind m_figure m_weight m_got m_setting men msy mdn m_tape m_letter m_letterAt m_told tp mat stm m_kept him 1 (nI (50 * wh + 40)) m_price m_offer m_gets m_yes m_buys m_ends m_carried m_row rm m_keptRow m_likeGets m_likePrice m_ahead, cI aC m_kept 100 u_11, cI aC m_setting 5 stf] H := hP
  have hD : va_D A [cI aC m_kind 9 kf, cI aC m_figure 9 ff, cI aC m_weight 9 wf, cI aC m_got 8 pf, oX12 g0 m_refused m_kind m_figure m_weight m_got m_setting men msy mdn m_tape m_letter m_letterAt m_told tp mat stm m_kept him 1 (nI (50 * wh + 40)) m_price m_offer m_gets m_yes m_buys m_ends m_carried m_row rm m_keptRow m_likeGets m_likePrice m_ahead, cI aC m_kept 100 u_11, cI aC m_setting 5 stf] := hD
  refine lv_aload_n hx hb dX12_passesAll_53 rfl (lv_at hl 0 rfl) ?_
  refine lv_aload_n hx hb dX12_passesAll_54 rfl (lv_at hl 0 rfl) ?_
  refine lv_aload_n hx hb dX12_passesAll_55 rfl (lv_at hl 0 rfl) ?_
  refine va_get (D := (dC, dI)) (ci := 12) (v := Value.int men) (C := RX12) (T := TX12) (N := 33) hx hb hts inX12 hown hK hP 4 rfl rfl 6 (by decide) (hts _ (gw kw_723 rfl)) (fun _ h9 => h9) rfl dX12_passesAll_56 ?_
  have hpd9 := pdf_N (cx := [oX12 g0 m_refused m_kind m_figure m_weight m_got m_setting men msy mdn m_tape m_letter m_letterAt m_told tp mat stm m_kept him 1 (nI (50 * wh + 40)) m_price m_offer m_gets m_yes m_buys m_ends m_carried m_row rm m_keptRow m_likeGets m_likePrice m_ahead, cI aC m_kept 100 u_11]) hP hD hS hA [4, 5] (by decide) rfl
  have hPc := hpd9.1
  have hDc := hpd9.2.1
  have hFc := hpd9.2.2
  clear hpd9
  refine va_calli (va_runV (As := [Value.int men]) (rest := [Value.ref g0]) ⟨hx, hb, hml, hown, hts⟩ (c_X12_passOne_k l dC dI aC H.size g0 m_refused m_kind m_figure m_weight m_got m_setting m_tape m_letter m_letterAt m_told m_kept m_price m_offer m_gets m_yes m_buys m_ends m_carried m_row m_keptRow m_likeGets m_likePrice m_ahead men msy mdn tp mat stm him rm men (50 * wh + 40) u_11 (by omega)) ⟨(callB_of 1 hts (gG kw_858) rfl rfl rfl (hts _ (gw kw_13 rfl)) (hts _ (gw kw_855 rfl)) hd_X12_passOne ⟨Nat.le_of_ble_eq_true rfl, Nat.le_of_ble_eq_true rfl⟩), (hts _ (gw kw_857 rfl)), (hts _ (gw ks_41 rfl))⟩ ⟨fb_std, va_recv (q := (RX12, TX12, 33)) hK hPc (ci := 12) (q0 := 0) rfl rfl, pre_std hPc hK hDc hN⟩ rfl rfl hl.1 rfl (lv_room (Nat.le_of_ble_eq_true rfl)) dX12_passesAll_59 ⟨Nat.le_of_ble_eq_true rfl, Nat.le_of_ble_eq_true rfl⟩) hS (fun q _ h => hFc q h) hFc (fun x_12 u9 t9 H1 locs ht hvm hw_12 hB hz1 hk1 hS => ?_)
  obtain ⟨u_13, rfl⟩ : ∃ z, z = u9 := ⟨_, rfl⟩
  obtain ⟨hP1, hK1, hD1⟩ := hB
  rw [ht] at hP1
  clear hK1
  try dsimp only at hw_12
  have hpd9 : PDx (dC, dI) classes A H1 [cI aC m_kind 9 kf, cI aC m_figure 9 ff, cI aC m_weight 9 wf, cI aC m_got 8 pf, cI aC m_setting 5 stf, oX12 g0 m_refused m_kind m_figure m_weight m_got m_setting men msy mdn m_tape m_letter m_letterAt m_told tp mat stm m_kept him 1 (nI ((50 * wh + 40) + 1)) m_price m_offer m_gets m_yes m_buys m_ends m_carried m_row rm m_keptRow m_likeGets m_likePrice m_ahead, cI aC m_kept 100 u_13] := jn_N (wr := [cI aC m_kind 9 kf, cI aC m_figure 9 ff, cI aC m_weight 9 wf, cI aC m_got 8 pf, cI aC m_setting 5 stf]) hFc hk1 hP1 hD1 hP hD [4, 5] [0, 1, 2, 3, 6] rfl rfl (by decide) (by decide)
  have hP := hpd9.1
  have hD := hpd9.2
  clear hpd9
  generalize H1 = H at hP hS ⊢
  clear hPc hDc hFc hz1 hk1 hP1 hD1 ht hvm
  obtain ⟨hr_59, hq_59⟩ := hw_12
  have h9 : men = x_12 := Eq.symm (show x_12 = men from hr_59)
  subst h9
  refine va_put (D := (dC, dI)) (ci := 12) (v := Value.int men) (ty := .int) (C := RX12) (T := TX12) (N := 33) hx hb hts inX12 tyX12 tyX12_ok nmX12 hown hK hP hD hS 5 rfl rfl 6 (by decide) (hts _ (gw kw_723 rfl)) (fun _ h9 => h9) rfl (by decide +kernel) rfl rfl (Nat.le_of_ble_eq_true rfl) dX12_passesAll_62 (fun H locs hP hD hS => ?_)
  have hpd9 : PDx (dC, dI) classes A H [cI aC m_kind 9 kf, cI aC m_figure 9 ff, cI aC m_weight 9 wf, cI aC m_got 8 pf, cI aC m_setting 5 stf, oX12 g0 m_refused m_kind m_figure m_weight m_got m_setting men msy mdn m_tape m_letter m_letterAt m_told tp mat stm m_kept him 1 (nI ((50 * wh + 40) + 1)) m_price m_offer m_gets m_yes m_buys m_ends m_carried m_row rm m_keptRow m_likeGets m_likePrice m_ahead, cI aC m_kept 100 u_13] := ⟨hP, hD⟩
  have hP := hpd9.1
  have hD := hpd9.2
  clear hpd9
  have hP : va_P (dC, dI) classes [cI aC m_kind 9 kf, cI aC m_figure 9 ff, cI aC m_weight 9 wf, cI aC m_got 8 pf, cI aC m_setting 5 stf, oX12 g0 m_refused m_kind m_figure m_weight m_got m_setting men msy mdn m_tape m_letter m_letterAt m_told tp mat stm m_kept him 1 (nI (50 * wh + 41)) m_price m_offer m_gets m_yes m_buys m_ends m_carried m_row rm m_keptRow m_likeGets m_likePrice m_ahead, cI aC m_kept 100 u_13] H := hP
  have hD : va_D A [cI aC m_kind 9 kf, cI aC m_figure 9 ff, cI aC m_weight 9 wf, cI aC m_got 8 pf, cI aC m_setting 5 stf, oX12 g0 m_refused m_kind m_figure m_weight m_got m_setting men msy mdn m_tape m_letter m_letterAt m_told tp mat stm m_kept him 1 (nI (50 * wh + 41)) m_price m_offer m_gets m_yes m_buys m_ends m_carried m_row rm m_keptRow m_likeGets m_likePrice m_ahead, cI aC m_kept 100 u_13] := hD
  refine lv_aload_n hx hb dX12_passesAll_65 rfl (lv_at hl 0 rfl) ?_
  refine lv_aload_n hx hb dX12_passesAll_66 rfl (lv_at hl 0 rfl) ?_
  refine lv_aload_n hx hb dX12_passesAll_67 rfl (lv_at hl 0 rfl) ?_
  refine va_get (D := (dC, dI)) (ci := 12) (v := Value.int msy) (C := RX12) (T := TX12) (N := 33) hx hb hts inX12 hown hK hP 5 rfl rfl 7 (by decide) (hts _ (gw kw_724 rfl)) (fun _ h9 => h9) rfl dX12_passesAll_68 ?_
  have hpd9 := pdf_N (cx := [oX12 g0 m_refused m_kind m_figure m_weight m_got m_setting men msy mdn m_tape m_letter m_letterAt m_told tp mat stm m_kept him 1 (nI (50 * wh + 41)) m_price m_offer m_gets m_yes m_buys m_ends m_carried m_row rm m_keptRow m_likeGets m_likePrice m_ahead, cI aC m_kept 100 u_13]) hP hD hS hA [5, 6] (by decide) rfl
  have hPc := hpd9.1
  have hDc := hpd9.2.1
  have hFc := hpd9.2.2
  clear hpd9
  refine va_calli (va_runV (As := [Value.int msy]) (rest := [Value.ref g0]) ⟨hx, hb, hml, hown, hts⟩ (c_X12_passOne_k l dC dI aC H.size g0 m_refused m_kind m_figure m_weight m_got m_setting m_tape m_letter m_letterAt m_told m_kept m_price m_offer m_gets m_yes m_buys m_ends m_carried m_row m_keptRow m_likeGets m_likePrice m_ahead men msy mdn tp mat stm him rm msy (50 * wh + 41) u_13 (by omega)) ⟨(callB_of 1 hts (gG kw_858) rfl rfl rfl (hts _ (gw kw_13 rfl)) (hts _ (gw kw_855 rfl)) hd_X12_passOne ⟨Nat.le_of_ble_eq_true rfl, Nat.le_of_ble_eq_true rfl⟩), (hts _ (gw kw_857 rfl)), (hts _ (gw ks_41 rfl))⟩ ⟨fb_std, va_recv (q := (RX12, TX12, 33)) hK hPc (ci := 12) (q0 := 0) rfl rfl, pre_std hPc hK hDc hN⟩ rfl rfl hl.1 rfl (lv_room (Nat.le_of_ble_eq_true rfl)) dX12_passesAll_71 ⟨Nat.le_of_ble_eq_true rfl, Nat.le_of_ble_eq_true rfl⟩) hS (fun q _ h => hFc q h) hFc (fun x_14 u9 t9 H1 locs ht hvm hw_14 hB hz1 hk1 hS => ?_)
  obtain ⟨u_15, rfl⟩ : ∃ z, z = u9 := ⟨_, rfl⟩
  obtain ⟨hP1, hK1, hD1⟩ := hB
  rw [ht] at hP1
  clear hK1
  try dsimp only at hw_14
  have hpd9 : PDx (dC, dI) classes A H1 [cI aC m_kind 9 kf, cI aC m_figure 9 ff, cI aC m_weight 9 wf, cI aC m_got 8 pf, cI aC m_setting 5 stf, oX12 g0 m_refused m_kind m_figure m_weight m_got m_setting men msy mdn m_tape m_letter m_letterAt m_told tp mat stm m_kept him 1 (nI ((50 * wh + 41) + 1)) m_price m_offer m_gets m_yes m_buys m_ends m_carried m_row rm m_keptRow m_likeGets m_likePrice m_ahead, cI aC m_kept 100 u_15] := jn_N (wr := [cI aC m_kind 9 kf, cI aC m_figure 9 ff, cI aC m_weight 9 wf, cI aC m_got 8 pf, cI aC m_setting 5 stf]) hFc hk1 hP1 hD1 hP hD [5, 6] [0, 1, 2, 3, 4] rfl rfl (by decide) (by decide)
  have hP := hpd9.1
  have hD := hpd9.2
  clear hpd9
  generalize H1 = H at hP hS ⊢
  clear hPc hDc hFc hz1 hk1 hP1 hD1 ht hvm
  obtain ⟨hr_71, hq_71⟩ := hw_14
  have h9 : msy = x_14 := Eq.symm (show x_14 = msy from hr_71)
  subst h9
  refine va_put (D := (dC, dI)) (ci := 12) (v := Value.int msy) (ty := .int) (C := RX12) (T := TX12) (N := 33) hx hb hts inX12 tyX12 tyX12_ok nmX12 hown hK hP hD hS 5 rfl rfl 7 (by decide) (hts _ (gw kw_724 rfl)) (fun _ h9 => h9) rfl (by decide +kernel) rfl rfl (Nat.le_of_ble_eq_true rfl) dX12_passesAll_74 (fun H locs hP hD hS => ?_)
  have hpd9 : PDx (dC, dI) classes A H [cI aC m_kind 9 kf, cI aC m_figure 9 ff, cI aC m_weight 9 wf, cI aC m_got 8 pf, cI aC m_setting 5 stf, oX12 g0 m_refused m_kind m_figure m_weight m_got m_setting men msy mdn m_tape m_letter m_letterAt m_told tp mat stm m_kept him 1 (nI ((50 * wh + 41) + 1)) m_price m_offer m_gets m_yes m_buys m_ends m_carried m_row rm m_keptRow m_likeGets m_likePrice m_ahead, cI aC m_kept 100 u_15] := ⟨hP, hD⟩
  have hP := hpd9.1
  have hD := hpd9.2
  clear hpd9
  have hP : va_P (dC, dI) classes [cI aC m_kind 9 kf, cI aC m_figure 9 ff, cI aC m_weight 9 wf, cI aC m_got 8 pf, cI aC m_setting 5 stf, oX12 g0 m_refused m_kind m_figure m_weight m_got m_setting men msy mdn m_tape m_letter m_letterAt m_told tp mat stm m_kept him 1 (nI (50 * wh + 42)) m_price m_offer m_gets m_yes m_buys m_ends m_carried m_row rm m_keptRow m_likeGets m_likePrice m_ahead, cI aC m_kept 100 u_15] H := hP
  have hD : va_D A [cI aC m_kind 9 kf, cI aC m_figure 9 ff, cI aC m_weight 9 wf, cI aC m_got 8 pf, cI aC m_setting 5 stf, oX12 g0 m_refused m_kind m_figure m_weight m_got m_setting men msy mdn m_tape m_letter m_letterAt m_told tp mat stm m_kept him 1 (nI (50 * wh + 42)) m_price m_offer m_gets m_yes m_buys m_ends m_carried m_row rm m_keptRow m_likeGets m_likePrice m_ahead, cI aC m_kept 100 u_15] := hD
  refine lv_aload_n hx hb dX12_passesAll_77 rfl (lv_at hl 0 rfl) ?_
  refine lv_aload_n hx hb dX12_passesAll_78 rfl (lv_at hl 0 rfl) ?_
  refine lv_aload_n hx hb dX12_passesAll_79 rfl (lv_at hl 0 rfl) ?_
  refine va_get (D := (dC, dI)) (ci := 12) (v := Value.int mdn) (C := RX12) (T := TX12) (N := 33) hx hb hts inX12 hown hK hP 5 rfl rfl 8 (by decide) (hts _ (gw kw_725 rfl)) (fun _ h9 => h9) rfl dX12_passesAll_80 ?_
  have hpd9 := pdf_N (cx := [oX12 g0 m_refused m_kind m_figure m_weight m_got m_setting men msy mdn m_tape m_letter m_letterAt m_told tp mat stm m_kept him 1 (nI (50 * wh + 42)) m_price m_offer m_gets m_yes m_buys m_ends m_carried m_row rm m_keptRow m_likeGets m_likePrice m_ahead, cI aC m_kept 100 u_15]) hP hD hS hA [5, 6] (by decide) rfl
  have hPc := hpd9.1
  have hDc := hpd9.2.1
  have hFc := hpd9.2.2
  clear hpd9
  refine va_calli (va_runV (As := [Value.int mdn]) (rest := [Value.ref g0]) ⟨hx, hb, hml, hown, hts⟩ (c_X12_passOne_k l dC dI aC H.size g0 m_refused m_kind m_figure m_weight m_got m_setting m_tape m_letter m_letterAt m_told m_kept m_price m_offer m_gets m_yes m_buys m_ends m_carried m_row m_keptRow m_likeGets m_likePrice m_ahead men msy mdn tp mat stm him rm mdn (50 * wh + 42) u_15 (by omega)) ⟨(callB_of 1 hts (gG kw_858) rfl rfl rfl (hts _ (gw kw_13 rfl)) (hts _ (gw kw_855 rfl)) hd_X12_passOne ⟨Nat.le_of_ble_eq_true rfl, Nat.le_of_ble_eq_true rfl⟩), (hts _ (gw kw_857 rfl)), (hts _ (gw ks_41 rfl))⟩ ⟨fb_std, va_recv (q := (RX12, TX12, 33)) hK hPc (ci := 12) (q0 := 0) rfl rfl, pre_std hPc hK hDc hN⟩ rfl rfl hl.1 rfl (lv_room (Nat.le_of_ble_eq_true rfl)) dX12_passesAll_83 ⟨Nat.le_of_ble_eq_true rfl, Nat.le_of_ble_eq_true rfl⟩) hS (fun q _ h => hFc q h) hFc (fun x_16 u9 t9 H1 locs ht hvm hw_16 hB hz1 hk1 hS => ?_)
  obtain ⟨u_17, rfl⟩ : ∃ z, z = u9 := ⟨_, rfl⟩
  obtain ⟨hP1, hK1, hD1⟩ := hB
  rw [ht] at hP1
  clear hK1
  try dsimp only at hw_16
  have hpd9 : PDx (dC, dI) classes A H1 [cI aC m_kind 9 kf, cI aC m_figure 9 ff, cI aC m_weight 9 wf, cI aC m_got 8 pf, cI aC m_setting 5 stf, oX12 g0 m_refused m_kind m_figure m_weight m_got m_setting men msy mdn m_tape m_letter m_letterAt m_told tp mat stm m_kept him 1 (nI ((50 * wh + 42) + 1)) m_price m_offer m_gets m_yes m_buys m_ends m_carried m_row rm m_keptRow m_likeGets m_likePrice m_ahead, cI aC m_kept 100 u_17] := jn_N (wr := [cI aC m_kind 9 kf, cI aC m_figure 9 ff, cI aC m_weight 9 wf, cI aC m_got 8 pf, cI aC m_setting 5 stf]) hFc hk1 hP1 hD1 hP hD [5, 6] [0, 1, 2, 3, 4] rfl rfl (by decide) (by decide)
  have hP := hpd9.1
  have hD := hpd9.2
  clear hpd9
  generalize H1 = H at hP hS ⊢
  clear hPc hDc hFc hz1 hk1 hP1 hD1 ht hvm
  obtain ⟨hr_83, hq_83⟩ := hw_16
  have h9 : mdn = x_16 := Eq.symm (show x_16 = mdn from hr_83)
  subst h9
  refine va_put (D := (dC, dI)) (ci := 12) (v := Value.int mdn) (ty := .int) (C := RX12) (T := TX12) (N := 33) hx hb hts inX12 tyX12 tyX12_ok nmX12 hown hK hP hD hS 5 rfl rfl 8 (by decide) (hts _ (gw kw_725 rfl)) (fun _ h9 => h9) rfl (by decide +kernel) rfl rfl (Nat.le_of_ble_eq_true rfl) dX12_passesAll_86 (fun H locs hP hD hS => ?_)
  have hpd9 : PDx (dC, dI) classes A H [cI aC m_kind 9 kf, cI aC m_figure 9 ff, cI aC m_weight 9 wf, cI aC m_got 8 pf, cI aC m_setting 5 stf, oX12 g0 m_refused m_kind m_figure m_weight m_got m_setting men msy mdn m_tape m_letter m_letterAt m_told tp mat stm m_kept him 1 (nI ((50 * wh + 42) + 1)) m_price m_offer m_gets m_yes m_buys m_ends m_carried m_row rm m_keptRow m_likeGets m_likePrice m_ahead, cI aC m_kept 100 u_17] := ⟨hP, hD⟩
  have hP := hpd9.1
  have hD := hpd9.2
  clear hpd9
  have hpd9 := pd_N (cx := [oX12 g0 m_refused m_kind m_figure m_weight m_got m_setting men msy mdn m_tape m_letter m_letterAt m_told tp mat stm m_kept him 1 (nI ((50 * wh + 42) + 1)) m_price m_offer m_gets m_yes m_buys m_ends m_carried m_row rm m_keptRow m_likeGets m_likePrice m_ahead, cI aC m_kept 100 u_17, cI aC m_kind 9 kf, cI aC m_figure 9 ff, cI aC m_weight 9 wf, cI aC m_got 8 pf, cI aC m_setting 5 stf]) hP hD [5, 6, 0, 1, 2, 3, 4] (by decide) rfl
  have hP9 := hpd9.1
  have hD9 := hpd9.2
  refine W.widen (k := 0) (n := 0) (by omega) (by omega) ?_
  exact W.vret hx hb hr (fun t ht hW => ⟨⟨((nI ((50 * wh + 42) + 1)), u_17), rfl, PK_of hq_18 hq_26 hq_34 hq_42 hq_50 hq_59 hq_71 hq_83, by rw [ht]; exact hP9, va_K.moved hW.alike hK, hD9⟩, hS.F ht⟩) hS.2.2 dX12_passesAll_89

set_option maxHeartbeats 1000000 in
set_option maxRecDepth 100000 in
/-- X12_passesAll_l -/
theorem c_X12_passesAll_l (l : Launch) (dC : Nat → ClassId) (dI : Nat → Nat → Nat) (aC : Nat → ClassId) (sz : Nat) (g0 : Nat) (m_refused : Nat) (m_kind : Nat) (m_figure : Nat) (m_weight : Nat) (m_got : Nat) (m_setting : Nat) (m_tape : Nat) (m_letter : Nat) (m_letterAt : Nat) (m_told : Nat) (m_kept : Nat) (m_price : Nat) (m_offer : Nat) (m_gets : Nat) (m_yes : Nat) (m_buys : Nat) (m_ends : Nat) (m_carried : Nat) (m_row : Nat) (m_keptRow : Nat) (m_likeGets : Nat) (m_likePrice : Nat) (m_ahead : Nat) (men : Int32) (msy : Int32) (mdn : Int32) (tp : Int32) (mat : Int32) (stm : Int32) (him : Int32) (ki : Int32) (crs : Int32) (rm : Int32) (kp : Nat → Int32) (wh : Nat) (kf : Nat → Int32) (ff : Nat → Int32) (wf : Nat → Int32) (pf : Nat → Int32) (stf : Nat → Int32) (hwh : wh ≤ 1) : Met l yX12_passesAll (wW yX12_passesAll cX12_passesAll 3 (none : Option FieldType)) ({ frames := 1, cells := 0, slots := 0, locals := 22 } : Room) (va_Pc [Value.ref g0, Value.int (nI wh), Value.int 0] (fun U => U.heap.size = sz ∧ va_P (dC, dI) classes [oX12 g0 m_refused m_kind m_figure m_weight m_got m_setting men msy mdn m_tape m_letter m_letterAt m_told tp mat stm m_kept him ki crs m_price m_offer m_gets m_yes m_buys m_ends m_carried m_row rm m_keptRow m_likeGets m_likePrice m_ahead, cI aC m_kept 100 kp, cI aC m_kind 9 kf, cI aC m_figure 9 ff, cI aC m_weight 9 wf, cI aC m_got 8 pf, cI aC m_setting 5 stf] U.heap ∧ va_K (dC, dI) classes (TY aC) U ∧ va_D (fun _ => True) [oX12 g0 m_refused m_kind m_figure m_weight m_got m_setting men msy mdn m_tape m_letter m_letterAt m_told tp mat stm m_kept him ki crs m_price m_offer m_gets m_yes m_buys m_ends m_carried m_row rm m_keptRow m_likeGets m_likePrice m_ahead, cI aC m_kept 100 kp, cI aC m_kind 9 kf, cI aC m_figure 9 ff, cI aC m_weight 9 wf, cI aC m_got 8 pf, cI aC m_setting 5 stf] ∧ NX U)) (va_Qv (fun (u : Int32 × Int32 × Int32 × Int32 × (Nat → Int32) × (Nat → Int32) × (Nat → Int32) × (Nat → Int32) × (Nat → Int32)) => match u with | (cu2, men2, msy2, mdn2, kf2, ff2, wf2, pf2, stf2) => PK (50 * wh) kp kf2 ff2 wf2 pf2 stf2 men2 msy2 mdn2) (fun (u : Int32 × Int32 × Int32 × Int32 × (Nat → Int32) × (Nat → Int32) × (Nat → Int32) × (Nat → Int32) × (Nat → Int32)) (t : State) => match u with | (cu2, men2, msy2, mdn2, kf2, ff2, wf2, pf2, stf2) => va_P (dC, dI) classes [oX12 g0 m_refused m_kind m_figure m_weight m_got m_setting men2 msy2 mdn2 m_tape m_letter m_letterAt m_told tp mat stm m_kept him 0 cu2 m_price m_offer m_gets m_yes m_buys m_ends m_carried m_row rm m_keptRow m_likeGets m_likePrice m_ahead, cI aC m_kept 100 kp, cI aC m_kind 9 kf2, cI aC m_figure 9 ff2, cI aC m_weight 9 wf2, cI aC m_got 8 pf2, cI aC m_setting 5 stf2] t.heap ∧ va_K (dC, dI) classes (TY aC) t ∧ va_D (va_A [oX12 g0 m_refused m_kind m_figure m_weight m_got m_setting men msy mdn m_tape m_letter m_letterAt m_told tp mat stm m_kept him ki crs m_price m_offer m_gets m_yes m_buys m_ends m_carried m_row rm m_keptRow m_likeGets m_likePrice m_ahead, cI aC m_kept 100 kp, cI aC m_kind 9 kf, cI aC m_figure 9 ff, cI aC m_weight 9 wf, cI aC m_got 8 pf, cI aC m_setting 5 stf] sz) [oX12 g0 m_refused m_kind m_figure m_weight m_got m_setting men2 msy2 mdn2 m_tape m_letter m_letterAt m_told tp mat stm m_kept him 0 cu2 m_price m_offer m_gets m_yes m_buys m_ends m_carried m_row rm m_keptRow m_likeGets m_likePrice m_ahead, cI aC m_kept 100 kp, cI aC m_kind 9 kf2, cI aC m_figure 9 ff2, cI aC m_weight 9 wf2, cI aC m_got 8 pf2, cI aC m_setting 5 stf2]) (va_A [oX12 g0 m_refused m_kind m_figure m_weight m_got m_setting men msy mdn m_tape m_letter m_letterAt m_told tp mat stm m_kept him ki crs m_price m_offer m_gets m_yes m_buys m_ends m_carried m_row rm m_keptRow m_likeGets m_likePrice m_ahead, cI aC m_kept 100 kp, cI aC m_kind 9 kf, cI aC m_figure 9 ff, cI aC m_weight 9 wf, cI aC m_got 8 pf, cI aC m_setting 5 stf] sz)) 0 0 (va_A [oX12 g0 m_refused m_kind m_figure m_weight m_got m_setting men msy mdn m_tape m_letter m_letterAt m_told tp mat stm m_kept him ki crs m_price m_offer m_gets m_yes m_buys m_ends m_carried m_row rm m_keptRow m_likeGets m_likePrice m_ahead, cI aC m_kept 100 kp, cI aC m_kind 9 kf, cI aC m_figure 9 ff, cI aC m_weight 9 wf, cI aC m_got 8 pf, cI aC m_setting 5 stf] sz) := by
  refine Met.ofW (cc := cX12_passesAll) (maxL := 3) (ret := (none : Option FieldType)) (by decide) rfl ?_
  intro p e s m args below meth c s₁ B hml hv
  obtain ⟨rfl, hsz, hP, hK, hD0, hN⟩ := hv
  have hx := B.exec
  have hb := B.bytes
  have hr := B.returns
  have hts0 := atoms_spec (ws := (wW yX12_passesAll cX12_passesAll 3 (none : Option FieldType))) B.pre
  have hts : ∀ w9 ∈ lw_G, w9.before ([Value.ref g0, Value.int (nI wh), Value.int 0] : List Value).toArray s = true := fun w9 h9 => hts0 w9 (List.mem_cons_of_mem _ h9)
  have hown : s.vm.findClass RX12 = some m.cls := findClass_of_methodNamed (x := yX12_passesAll) B.named
  have hlocks := B.notSynchronized
  subst hsz
  have hD := hD0.self (sz := s.heap.size)
  generalize hAe : va_A [oX12 g0 m_refused m_kind m_figure m_weight m_got m_setting men msy mdn m_tape m_letter m_letterAt m_told tp mat stm m_kept him ki crs m_price m_offer m_gets m_yes m_buys m_ends m_carried m_row rm m_keptRow m_likeGets m_likePrice m_ahead, cI aC m_kept 100 kp, cI aC m_kind 9 kf, cI aC m_figure 9 ff, cI aC m_weight 9 wf, cI aC m_got 8 pf, cI aC m_setting 5 stf] s.heap.size = A at hD ⊢
  have hA : ∀ q : Nat, s.heap.size ≤ q → A q := fun q h => by rw [← hAe]; exact Or.inr h
  obtain ⟨H, hHe⟩ : ∃ H : Heap, H = s.heap := ⟨_, rfl⟩
  have hS : va_S A s.heap H [] := by rw [hHe]; exact va_S.rf
  have hP : va_P (dC, dI) classes [oX12 g0 m_refused m_kind m_figure m_weight m_got m_setting men msy mdn m_tape m_letter m_letterAt m_told tp mat stm m_kept him ki crs m_price m_offer m_gets m_yes m_buys m_ends m_carried m_row rm m_keptRow m_likeGets m_likePrice m_ahead, cI aC m_kept 100 kp, cI aC m_kind 9 kf, cI aC m_figure 9 ff, cI aC m_weight 9 wf, cI aC m_got 8 pf, cI aC m_setting 5 stf] H := by rw [hHe]; exact hP
  have hl := lv_entry ([Value.ref g0, Value.int (nI wh), Value.int 0]) (n := 3) (Nat.le_of_ble_eq_true rfl)
  rw [lg_entry_eq]
  generalize (lg_sl ([Value.ref g0, Value.int (nI wh), Value.int 0]) ++ List.replicate (3 - (lg_sl ([Value.ref g0, Value.int (nI wh), Value.int 0])).length) Slot.unset).toArray = ls at hl ⊢
  have hl : lv_has ls 3 [(0, Value.ref g0), (1, Value.int (nI wh)), (2, Value.int 0)] := hl
  rw [← hHe]
  refine lv_aload_n hx hb dX12_passesAll_0 rfl (lv_at hl 0 rfl) ?_
  refine lv_bipush (v := 50) hx hb dX12_passesAll_1 (by decide) ?_
  refine lv_iload_n hx hb dX12_passesAll_3 rfl (lv_at hl 1 rfl) ?_
  refine lv_imul hx hb dX12_passesAll_4 ?_
  refine lv_topi (fun x_1 e_1 => ?_)
  have h9 : x_1 = nI (50 * wh) := by rw [e_1]; exact pk_mul 50 wh
  subst h9
  refine va_put (D := (dC, dI)) (ci := 12) (v := Value.int (nI (50 * wh))) (ty := .int) (C := RX12) (T := TX12) (N := 33) hx hb hts inX12 tyX12 tyX12_ok nmX12 hown hK hP hD hS 0 rfl rfl 19 (by decide) (hts _ (gw kw_736 rfl)) (fun _ h9 => h9) rfl (by decide +kernel) rfl rfl (Nat.le_of_ble_eq_true rfl) dX12_passesAll_5 (fun H locs hP hD hS => ?_)
  have hpd9 : PDx (dC, dI) classes A H [oX12 g0 m_refused m_kind m_figure m_weight m_got m_setting men msy mdn m_tape m_letter m_letterAt m_told tp mat stm m_kept him ki (nI (50 * wh)) m_price m_offer m_gets m_yes m_buys m_ends m_carried m_row rm m_keptRow m_likeGets m_likePrice m_ahead, cI aC m_kept 100 kp, cI aC m_kind 9 kf, cI aC m_figure 9 ff, cI aC m_weight 9 wf, cI aC m_got 8 pf, cI aC m_setting 5 stf] := ⟨hP, hD⟩
  have hP := hpd9.1
  have hD := hpd9.2
  clear hpd9
  refine lv_aload_n hx hb dX12_passesAll_8 rfl (lv_at hl 0 rfl) ?_
  refine lv_iload_n hx hb dX12_passesAll_9 rfl (lv_at hl 2 rfl) ?_
  refine va_put (D := (dC, dI)) (ci := 12) (v := Value.int 0) (ty := .boolean) (C := RX12) (T := TX12) (N := 33) hx hb hts inX12 tyX12 tyX12_ok nmX12 hown hK hP hD hS 0 rfl rfl 18 (by decide) (hts _ (gw kw_735 rfl)) (fun _ h9 => h9) rfl (by decide +kernel) rfl rfl (Nat.le_of_ble_eq_true rfl) dX12_passesAll_10 (fun H locs hP hD hS => ?_)
  have hpd9 : PDx (dC, dI) classes A H [oX12 g0 m_refused m_kind m_figure m_weight m_got m_setting men msy mdn m_tape m_letter m_letterAt m_told tp mat stm m_kept him 0 (nI (50 * wh)) m_price m_offer m_gets m_yes m_buys m_ends m_carried m_row rm m_keptRow m_likeGets m_likePrice m_ahead, cI aC m_kept 100 kp, cI aC m_kind 9 kf, cI aC m_figure 9 ff, cI aC m_weight 9 wf, cI aC m_got 8 pf, cI aC m_setting 5 stf] := ⟨hP, hD⟩
  have hP := hpd9.1
  have hD := hpd9.2
  clear hpd9
  refine lv_aload_n hx hb dX12_passesAll_13 rfl (lv_at hl 0 rfl) ?_
  refine lv_aload_n hx hb dX12_passesAll_14 rfl (lv_at hl 0 rfl) ?_
  refine va_get (D := (dC, dI)) (ci := 12) (v := Value.ref m_kind) (C := RX12) (T := TX12) (N := 33) hx hb hts inX12 hown hK hP 0 rfl rfl 1 (by decide) (hts _ (gw kw_718 rfl)) (fun _ h9 => h9) rfl dX12_passesAll_15 ?_
  have hpd9 := pdf_N (cx := [oX12 g0 m_refused m_kind m_figure m_weight m_got m_setting men msy mdn m_tape m_letter m_letterAt m_told tp mat stm m_kept him 0 (nI (50 * wh)) m_price m_offer m_gets m_yes m_buys m_ends m_carried m_row rm m_keptRow m_likeGets m_likePrice m_ahead, cI aC m_kept 100 kp, cI aC m_kind 9 kf]) hP hD hS hA [0, 1, 2] (by decide) rfl
  have hPc := hpd9.1
  have hDc := hpd9.2.1
  have hFc := hpd9.2.2
  clear hpd9
  refine va_callv (va_runV (As := [Value.ref m_kind]) (rest := []) ⟨hx, hb, hml, hown, hts⟩ (c_X12_passes_l l dC dI aC H.size g0 m_refused m_kind m_figure m_weight m_got m_setting m_tape m_letter m_letterAt m_told m_kept m_price m_offer m_gets m_yes m_buys m_ends m_carried m_row m_keptRow m_likeGets m_likePrice m_ahead men msy mdn tp mat stm him rm m_kind 9 (50 * wh) kf kp (by omega)) ⟨(callB_of 1 hts (gG kw_854) rfl rfl rfl (hts _ (gw kw_13 rfl)) (hts _ (gw kw_851 rfl)) hd_X12_passes ⟨Nat.le_of_ble_eq_true rfl, Nat.le_of_ble_eq_true rfl⟩), (hts _ (gw kw_853 rfl)), (hts _ (gw ks_40 rfl))⟩ ⟨fb_std, va_recv (q := (RX12, TX12, 33)) hK hPc (ci := 12) (q0 := 0) rfl rfl, pre_std hPc hK hDc hN⟩ rfl rfl hl.1 rfl (lv_room (Nat.le_of_ble_eq_true rfl)) dX12_passesAll_18 ⟨Nat.le_of_ble_eq_true rfl, Nat.le_of_ble_eq_true rfl⟩) hS (fun q _ h => hFc q h) hFc (fun u9 t9 H1 locs ht hvm hw_2 hB hz1 hk1 hS => ?_)
  obtain ⟨u_3, rfl⟩ : ∃ z, z = u9 := ⟨_, rfl⟩
  obtain ⟨hP1, hK1, hD1⟩ := hB
  rw [ht] at hP1
  clear hK1
  try dsimp only at hw_2
  have hpd9 : PDx (dC, dI) classes A H1 [cI aC m_figure 9 ff, cI aC m_weight 9 wf, cI aC m_got 8 pf, cI aC m_setting 5 stf, oX12 g0 m_refused m_kind m_figure m_weight m_got m_setting men msy mdn m_tape m_letter m_letterAt m_told tp mat stm m_kept him 0 (nI ((50 * wh) + 9)) m_price m_offer m_gets m_yes m_buys m_ends m_carried m_row rm m_keptRow m_likeGets m_likePrice m_ahead, cI aC m_kept 100 kp, cI aC m_kind 9 u_3] := jn_N (wr := [cI aC m_figure 9 ff, cI aC m_weight 9 wf, cI aC m_got 8 pf, cI aC m_setting 5 stf]) hFc hk1 hP1 hD1 hP hD [0, 1, 2] [3, 4, 5, 6] rfl rfl (by decide) (by decide)
  have hP := hpd9.1
  have hD := hpd9.2
  clear hpd9
  generalize H1 = H at hP hS ⊢
  clear hPc hDc hFc hz1 hk1 hP1 hD1 ht hvm
  have hq_18 := hw_2
  have hP : va_P (dC, dI) classes [cI aC m_figure 9 ff, cI aC m_weight 9 wf, cI aC m_got 8 pf, cI aC m_setting 5 stf, oX12 g0 m_refused m_kind m_figure m_weight m_got m_setting men msy mdn m_tape m_letter m_letterAt m_told tp mat stm m_kept him 0 (nI (50 * wh + 9)) m_price m_offer m_gets m_yes m_buys m_ends m_carried m_row rm m_keptRow m_likeGets m_likePrice m_ahead, cI aC m_kept 100 kp, cI aC m_kind 9 u_3] H := hP
  have hD : va_D A [cI aC m_figure 9 ff, cI aC m_weight 9 wf, cI aC m_got 8 pf, cI aC m_setting 5 stf, oX12 g0 m_refused m_kind m_figure m_weight m_got m_setting men msy mdn m_tape m_letter m_letterAt m_told tp mat stm m_kept him 0 (nI (50 * wh + 9)) m_price m_offer m_gets m_yes m_buys m_ends m_carried m_row rm m_keptRow m_likeGets m_likePrice m_ahead, cI aC m_kept 100 kp, cI aC m_kind 9 u_3] := hD
  refine lv_aload_n hx hb dX12_passesAll_21 rfl (lv_at hl 0 rfl) ?_
  refine lv_aload_n hx hb dX12_passesAll_22 rfl (lv_at hl 0 rfl) ?_
  refine va_get (D := (dC, dI)) (ci := 12) (v := Value.ref m_figure) (C := RX12) (T := TX12) (N := 33) hx hb hts inX12 hown hK hP 4 rfl rfl 2 (by decide) (hts _ (gw kw_719 rfl)) (fun _ h9 => h9) rfl dX12_passesAll_23 ?_
  have hpd9 := pdf_N (cx := [oX12 g0 m_refused m_kind m_figure m_weight m_got m_setting men msy mdn m_tape m_letter m_letterAt m_told tp mat stm m_kept him 0 (nI (50 * wh + 9)) m_price m_offer m_gets m_yes m_buys m_ends m_carried m_row rm m_keptRow m_likeGets m_likePrice m_ahead, cI aC m_kept 100 kp, cI aC m_figure 9 ff]) hP hD hS hA [4, 5, 0] (by decide) rfl
  have hPc := hpd9.1
  have hDc := hpd9.2.1
  have hFc := hpd9.2.2
  clear hpd9
  refine va_callv (va_runV (As := [Value.ref m_figure]) (rest := []) ⟨hx, hb, hml, hown, hts⟩ (c_X12_passes_l l dC dI aC H.size g0 m_refused m_kind m_figure m_weight m_got m_setting m_tape m_letter m_letterAt m_told m_kept m_price m_offer m_gets m_yes m_buys m_ends m_carried m_row m_keptRow m_likeGets m_likePrice m_ahead men msy mdn tp mat stm him rm m_figure 9 (50 * wh + 9) ff kp (by omega)) ⟨(callB_of 1 hts (gG kw_854) rfl rfl rfl (hts _ (gw kw_13 rfl)) (hts _ (gw kw_851 rfl)) hd_X12_passes ⟨Nat.le_of_ble_eq_true rfl, Nat.le_of_ble_eq_true rfl⟩), (hts _ (gw kw_853 rfl)), (hts _ (gw ks_40 rfl))⟩ ⟨fb_std, va_recv (q := (RX12, TX12, 33)) hK hPc (ci := 12) (q0 := 0) rfl rfl, pre_std hPc hK hDc hN⟩ rfl rfl hl.1 rfl (lv_room (Nat.le_of_ble_eq_true rfl)) dX12_passesAll_26 ⟨Nat.le_of_ble_eq_true rfl, Nat.le_of_ble_eq_true rfl⟩) hS (fun q _ h => hFc q h) hFc (fun u9 t9 H1 locs ht hvm hw_4 hB hz1 hk1 hS => ?_)
  obtain ⟨u_5, rfl⟩ : ∃ z, z = u9 := ⟨_, rfl⟩
  obtain ⟨hP1, hK1, hD1⟩ := hB
  rw [ht] at hP1
  clear hK1
  try dsimp only at hw_4
  have hpd9 : PDx (dC, dI) classes A H1 [cI aC m_weight 9 wf, cI aC m_got 8 pf, cI aC m_setting 5 stf, cI aC m_kind 9 u_3, oX12 g0 m_refused m_kind m_figure m_weight m_got m_setting men msy mdn m_tape m_letter m_letterAt m_told tp mat stm m_kept him 0 (nI ((50 * wh + 9) + 9)) m_price m_offer m_gets m_yes m_buys m_ends m_carried m_row rm m_keptRow m_likeGets m_likePrice m_ahead, cI aC m_kept 100 kp, cI aC m_figure 9 u_5] := jn_N (wr := [cI aC m_weight 9 wf, cI aC m_got 8 pf, cI aC m_setting 5 stf, cI aC m_kind 9 u_3]) hFc hk1 hP1 hD1 hP hD [4, 5, 0] [1, 2, 3, 6] rfl rfl (by decide) (by decide)
  have hP := hpd9.1
  have hD := hpd9.2
  clear hpd9
  generalize H1 = H at hP hS ⊢
  clear hPc hDc hFc hz1 hk1 hP1 hD1 ht hvm
  have hq_26 := hw_4
  have hP : va_P (dC, dI) classes [cI aC m_weight 9 wf, cI aC m_got 8 pf, cI aC m_setting 5 stf, cI aC m_kind 9 u_3, oX12 g0 m_refused m_kind m_figure m_weight m_got m_setting men msy mdn m_tape m_letter m_letterAt m_told tp mat stm m_kept him 0 (nI (50 * wh + 18)) m_price m_offer m_gets m_yes m_buys m_ends m_carried m_row rm m_keptRow m_likeGets m_likePrice m_ahead, cI aC m_kept 100 kp, cI aC m_figure 9 u_5] H := hP
  have hD : va_D A [cI aC m_weight 9 wf, cI aC m_got 8 pf, cI aC m_setting 5 stf, cI aC m_kind 9 u_3, oX12 g0 m_refused m_kind m_figure m_weight m_got m_setting men msy mdn m_tape m_letter m_letterAt m_told tp mat stm m_kept him 0 (nI (50 * wh + 18)) m_price m_offer m_gets m_yes m_buys m_ends m_carried m_row rm m_keptRow m_likeGets m_likePrice m_ahead, cI aC m_kept 100 kp, cI aC m_figure 9 u_5] := hD
  refine lv_aload_n hx hb dX12_passesAll_29 rfl (lv_at hl 0 rfl) ?_
  refine lv_aload_n hx hb dX12_passesAll_30 rfl (lv_at hl 0 rfl) ?_
  refine va_get (D := (dC, dI)) (ci := 12) (v := Value.ref m_weight) (C := RX12) (T := TX12) (N := 33) hx hb hts inX12 hown hK hP 4 rfl rfl 3 (by decide) (hts _ (gw kw_720 rfl)) (fun _ h9 => h9) rfl dX12_passesAll_31 ?_
  have hpd9 := pdf_N (cx := [oX12 g0 m_refused m_kind m_figure m_weight m_got m_setting men msy mdn m_tape m_letter m_letterAt m_told tp mat stm m_kept him 0 (nI (50 * wh + 18)) m_price m_offer m_gets m_yes m_buys m_ends m_carried m_row rm m_keptRow m_likeGets m_likePrice m_ahead, cI aC m_kept 100 kp, cI aC m_weight 9 wf]) hP hD hS hA [4, 5, 0] (by decide) rfl
  have hPc := hpd9.1
  have hDc := hpd9.2.1
  have hFc := hpd9.2.2
  clear hpd9
  refine va_callv (va_runV (As := [Value.ref m_weight]) (rest := []) ⟨hx, hb, hml, hown, hts⟩ (c_X12_passes_l l dC dI aC H.size g0 m_refused m_kind m_figure m_weight m_got m_setting m_tape m_letter m_letterAt m_told m_kept m_price m_offer m_gets m_yes m_buys m_ends m_carried m_row m_keptRow m_likeGets m_likePrice m_ahead men msy mdn tp mat stm him rm m_weight 9 (50 * wh + 18) wf kp (by omega)) ⟨(callB_of 1 hts (gG kw_854) rfl rfl rfl (hts _ (gw kw_13 rfl)) (hts _ (gw kw_851 rfl)) hd_X12_passes ⟨Nat.le_of_ble_eq_true rfl, Nat.le_of_ble_eq_true rfl⟩), (hts _ (gw kw_853 rfl)), (hts _ (gw ks_40 rfl))⟩ ⟨fb_std, va_recv (q := (RX12, TX12, 33)) hK hPc (ci := 12) (q0 := 0) rfl rfl, pre_std hPc hK hDc hN⟩ rfl rfl hl.1 rfl (lv_room (Nat.le_of_ble_eq_true rfl)) dX12_passesAll_34 ⟨Nat.le_of_ble_eq_true rfl, Nat.le_of_ble_eq_true rfl⟩) hS (fun q _ h => hFc q h) hFc (fun u9 t9 H1 locs ht hvm hw_6 hB hz1 hk1 hS => ?_)
  obtain ⟨u_7, rfl⟩ : ∃ z, z = u9 := ⟨_, rfl⟩
  obtain ⟨hP1, hK1, hD1⟩ := hB
  rw [ht] at hP1
  clear hK1
  try dsimp only at hw_6
  have hpd9 : PDx (dC, dI) classes A H1 [cI aC m_got 8 pf, cI aC m_setting 5 stf, cI aC m_kind 9 u_3, cI aC m_figure 9 u_5, oX12 g0 m_refused m_kind m_figure m_weight m_got m_setting men msy mdn m_tape m_letter m_letterAt m_told tp mat stm m_kept him 0 (nI ((50 * wh + 18) + 9)) m_price m_offer m_gets m_yes m_buys m_ends m_carried m_row rm m_keptRow m_likeGets m_likePrice m_ahead, cI aC m_kept 100 kp, cI aC m_weight 9 u_7] := jn_N (wr := [cI aC m_got 8 pf, cI aC m_setting 5 stf, cI aC m_kind 9 u_3, cI aC m_figure 9 u_5]) hFc hk1 hP1 hD1 hP hD [4, 5, 0] [1, 2, 3, 6] rfl rfl (by decide) (by decide)
  have hP := hpd9.1
  have hD := hpd9.2
  clear hpd9
  generalize H1 = H at hP hS ⊢
  clear hPc hDc hFc hz1 hk1 hP1 hD1 ht hvm
  have hq_34 := hw_6
  have hP : va_P (dC, dI) classes [cI aC m_got 8 pf, cI aC m_setting 5 stf, cI aC m_kind 9 u_3, cI aC m_figure 9 u_5, oX12 g0 m_refused m_kind m_figure m_weight m_got m_setting men msy mdn m_tape m_letter m_letterAt m_told tp mat stm m_kept him 0 (nI (50 * wh + 27)) m_price m_offer m_gets m_yes m_buys m_ends m_carried m_row rm m_keptRow m_likeGets m_likePrice m_ahead, cI aC m_kept 100 kp, cI aC m_weight 9 u_7] H := hP
  have hD : va_D A [cI aC m_got 8 pf, cI aC m_setting 5 stf, cI aC m_kind 9 u_3, cI aC m_figure 9 u_5, oX12 g0 m_refused m_kind m_figure m_weight m_got m_setting men msy mdn m_tape m_letter m_letterAt m_told tp mat stm m_kept him 0 (nI (50 * wh + 27)) m_price m_offer m_gets m_yes m_buys m_ends m_carried m_row rm m_keptRow m_likeGets m_likePrice m_ahead, cI aC m_kept 100 kp, cI aC m_weight 9 u_7] := hD
  refine lv_aload_n hx hb dX12_passesAll_37 rfl (lv_at hl 0 rfl) ?_
  refine lv_aload_n hx hb dX12_passesAll_38 rfl (lv_at hl 0 rfl) ?_
  refine va_get (D := (dC, dI)) (ci := 12) (v := Value.ref m_got) (C := RX12) (T := TX12) (N := 33) hx hb hts inX12 hown hK hP 4 rfl rfl 4 (by decide) (hts _ (gw kw_721 rfl)) (fun _ h9 => h9) rfl dX12_passesAll_39 ?_
  have hpd9 := pdf_N (cx := [oX12 g0 m_refused m_kind m_figure m_weight m_got m_setting men msy mdn m_tape m_letter m_letterAt m_told tp mat stm m_kept him 0 (nI (50 * wh + 27)) m_price m_offer m_gets m_yes m_buys m_ends m_carried m_row rm m_keptRow m_likeGets m_likePrice m_ahead, cI aC m_kept 100 kp, cI aC m_got 8 pf]) hP hD hS hA [4, 5, 0] (by decide) rfl
  have hPc := hpd9.1
  have hDc := hpd9.2.1
  have hFc := hpd9.2.2
  clear hpd9
  refine va_callv (va_runV (As := [Value.ref m_got]) (rest := []) ⟨hx, hb, hml, hown, hts⟩ (c_X12_passes_l l dC dI aC H.size g0 m_refused m_kind m_figure m_weight m_got m_setting m_tape m_letter m_letterAt m_told m_kept m_price m_offer m_gets m_yes m_buys m_ends m_carried m_row m_keptRow m_likeGets m_likePrice m_ahead men msy mdn tp mat stm him rm m_got 8 (50 * wh + 27) pf kp (by omega)) ⟨(callB_of 1 hts (gG kw_854) rfl rfl rfl (hts _ (gw kw_13 rfl)) (hts _ (gw kw_851 rfl)) hd_X12_passes ⟨Nat.le_of_ble_eq_true rfl, Nat.le_of_ble_eq_true rfl⟩), (hts _ (gw kw_853 rfl)), (hts _ (gw ks_40 rfl))⟩ ⟨fb_std, va_recv (q := (RX12, TX12, 33)) hK hPc (ci := 12) (q0 := 0) rfl rfl, pre_std hPc hK hDc hN⟩ rfl rfl hl.1 rfl (lv_room (Nat.le_of_ble_eq_true rfl)) dX12_passesAll_42 ⟨Nat.le_of_ble_eq_true rfl, Nat.le_of_ble_eq_true rfl⟩) hS (fun q _ h => hFc q h) hFc (fun u9 t9 H1 locs ht hvm hw_8 hB hz1 hk1 hS => ?_)
  obtain ⟨u_9, rfl⟩ : ∃ z, z = u9 := ⟨_, rfl⟩
  obtain ⟨hP1, hK1, hD1⟩ := hB
  rw [ht] at hP1
  clear hK1
  try dsimp only at hw_8
  have hpd9 : PDx (dC, dI) classes A H1 [cI aC m_setting 5 stf, cI aC m_kind 9 u_3, cI aC m_figure 9 u_5, cI aC m_weight 9 u_7, oX12 g0 m_refused m_kind m_figure m_weight m_got m_setting men msy mdn m_tape m_letter m_letterAt m_told tp mat stm m_kept him 0 (nI ((50 * wh + 27) + 8)) m_price m_offer m_gets m_yes m_buys m_ends m_carried m_row rm m_keptRow m_likeGets m_likePrice m_ahead, cI aC m_kept 100 kp, cI aC m_got 8 u_9] := jn_N (wr := [cI aC m_setting 5 stf, cI aC m_kind 9 u_3, cI aC m_figure 9 u_5, cI aC m_weight 9 u_7]) hFc hk1 hP1 hD1 hP hD [4, 5, 0] [1, 2, 3, 6] rfl rfl (by decide) (by decide)
  have hP := hpd9.1
  have hD := hpd9.2
  clear hpd9
  generalize H1 = H at hP hS ⊢
  clear hPc hDc hFc hz1 hk1 hP1 hD1 ht hvm
  have hq_42 := hw_8
  have hP : va_P (dC, dI) classes [cI aC m_setting 5 stf, cI aC m_kind 9 u_3, cI aC m_figure 9 u_5, cI aC m_weight 9 u_7, oX12 g0 m_refused m_kind m_figure m_weight m_got m_setting men msy mdn m_tape m_letter m_letterAt m_told tp mat stm m_kept him 0 (nI (50 * wh + 35)) m_price m_offer m_gets m_yes m_buys m_ends m_carried m_row rm m_keptRow m_likeGets m_likePrice m_ahead, cI aC m_kept 100 kp, cI aC m_got 8 u_9] H := hP
  have hD : va_D A [cI aC m_setting 5 stf, cI aC m_kind 9 u_3, cI aC m_figure 9 u_5, cI aC m_weight 9 u_7, oX12 g0 m_refused m_kind m_figure m_weight m_got m_setting men msy mdn m_tape m_letter m_letterAt m_told tp mat stm m_kept him 0 (nI (50 * wh + 35)) m_price m_offer m_gets m_yes m_buys m_ends m_carried m_row rm m_keptRow m_likeGets m_likePrice m_ahead, cI aC m_kept 100 kp, cI aC m_got 8 u_9] := hD
  refine lv_aload_n hx hb dX12_passesAll_45 rfl (lv_at hl 0 rfl) ?_
  refine lv_aload_n hx hb dX12_passesAll_46 rfl (lv_at hl 0 rfl) ?_
  refine va_get (D := (dC, dI)) (ci := 12) (v := Value.ref m_setting) (C := RX12) (T := TX12) (N := 33) hx hb hts inX12 hown hK hP 4 rfl rfl 5 (by decide) (hts _ (gw kw_722 rfl)) (fun _ h9 => h9) rfl dX12_passesAll_47 ?_
  have hpd9 := pdf_N (cx := [oX12 g0 m_refused m_kind m_figure m_weight m_got m_setting men msy mdn m_tape m_letter m_letterAt m_told tp mat stm m_kept him 0 (nI (50 * wh + 35)) m_price m_offer m_gets m_yes m_buys m_ends m_carried m_row rm m_keptRow m_likeGets m_likePrice m_ahead, cI aC m_kept 100 kp, cI aC m_setting 5 stf]) hP hD hS hA [4, 5, 0] (by decide) rfl
  have hPc := hpd9.1
  have hDc := hpd9.2.1
  have hFc := hpd9.2.2
  clear hpd9
  refine va_callv (va_runV (As := [Value.ref m_setting]) (rest := []) ⟨hx, hb, hml, hown, hts⟩ (c_X12_passes_l l dC dI aC H.size g0 m_refused m_kind m_figure m_weight m_got m_setting m_tape m_letter m_letterAt m_told m_kept m_price m_offer m_gets m_yes m_buys m_ends m_carried m_row m_keptRow m_likeGets m_likePrice m_ahead men msy mdn tp mat stm him rm m_setting 5 (50 * wh + 35) stf kp (by omega)) ⟨(callB_of 1 hts (gG kw_854) rfl rfl rfl (hts _ (gw kw_13 rfl)) (hts _ (gw kw_851 rfl)) hd_X12_passes ⟨Nat.le_of_ble_eq_true rfl, Nat.le_of_ble_eq_true rfl⟩), (hts _ (gw kw_853 rfl)), (hts _ (gw ks_40 rfl))⟩ ⟨fb_std, va_recv (q := (RX12, TX12, 33)) hK hPc (ci := 12) (q0 := 0) rfl rfl, pre_std hPc hK hDc hN⟩ rfl rfl hl.1 rfl (lv_room (Nat.le_of_ble_eq_true rfl)) dX12_passesAll_50 ⟨Nat.le_of_ble_eq_true rfl, Nat.le_of_ble_eq_true rfl⟩) hS (fun q _ h => hFc q h) hFc (fun u9 t9 H1 locs ht hvm hw_10 hB hz1 hk1 hS => ?_)
  obtain ⟨u_11, rfl⟩ : ∃ z, z = u9 := ⟨_, rfl⟩
  obtain ⟨hP1, hK1, hD1⟩ := hB
  rw [ht] at hP1
  clear hK1
  try dsimp only at hw_10
  have hpd9 : PDx (dC, dI) classes A H1 [cI aC m_kind 9 u_3, cI aC m_figure 9 u_5, cI aC m_weight 9 u_7, cI aC m_got 8 u_9, oX12 g0 m_refused m_kind m_figure m_weight m_got m_setting men msy mdn m_tape m_letter m_letterAt m_told tp mat stm m_kept him 0 (nI ((50 * wh + 35) + 5)) m_price m_offer m_gets m_yes m_buys m_ends m_carried m_row rm m_keptRow m_likeGets m_likePrice m_ahead, cI aC m_kept 100 kp, cI aC m_setting 5 u_11] := jn_N (wr := [cI aC m_kind 9 u_3, cI aC m_figure 9 u_5, cI aC m_weight 9 u_7, cI aC m_got 8 u_9]) hFc hk1 hP1 hD1 hP hD [4, 5, 0] [1, 2, 3, 6] rfl rfl (by decide) (by decide)
  have hP := hpd9.1
  have hD := hpd9.2
  clear hpd9
  generalize H1 = H at hP hS ⊢
  clear hPc hDc hFc hz1 hk1 hP1 hD1 ht hvm
  have hq_50 := hw_10
  have hP : va_P (dC, dI) classes [cI aC m_kind 9 u_3, cI aC m_figure 9 u_5, cI aC m_weight 9 u_7, cI aC m_got 8 u_9, oX12 g0 m_refused m_kind m_figure m_weight m_got m_setting men msy mdn m_tape m_letter m_letterAt m_told tp mat stm m_kept him 0 (nI (50 * wh + 40)) m_price m_offer m_gets m_yes m_buys m_ends m_carried m_row rm m_keptRow m_likeGets m_likePrice m_ahead, cI aC m_kept 100 kp, cI aC m_setting 5 u_11] H := hP
  have hD : va_D A [cI aC m_kind 9 u_3, cI aC m_figure 9 u_5, cI aC m_weight 9 u_7, cI aC m_got 8 u_9, oX12 g0 m_refused m_kind m_figure m_weight m_got m_setting men msy mdn m_tape m_letter m_letterAt m_told tp mat stm m_kept him 0 (nI (50 * wh + 40)) m_price m_offer m_gets m_yes m_buys m_ends m_carried m_row rm m_keptRow m_likeGets m_likePrice m_ahead, cI aC m_kept 100 kp, cI aC m_setting 5 u_11] := hD
  refine lv_aload_n hx hb dX12_passesAll_53 rfl (lv_at hl 0 rfl) ?_
  refine lv_aload_n hx hb dX12_passesAll_54 rfl (lv_at hl 0 rfl) ?_
  refine lv_aload_n hx hb dX12_passesAll_55 rfl (lv_at hl 0 rfl) ?_
  refine va_get (D := (dC, dI)) (ci := 12) (v := Value.int men) (C := RX12) (T := TX12) (N := 33) hx hb hts inX12 hown hK hP 4 rfl rfl 6 (by decide) (hts _ (gw kw_723 rfl)) (fun _ h9 => h9) rfl dX12_passesAll_56 ?_
  have hpd9 := pdf_N (cx := [oX12 g0 m_refused m_kind m_figure m_weight m_got m_setting men msy mdn m_tape m_letter m_letterAt m_told tp mat stm m_kept him 0 (nI (50 * wh + 40)) m_price m_offer m_gets m_yes m_buys m_ends m_carried m_row rm m_keptRow m_likeGets m_likePrice m_ahead, cI aC m_kept 100 kp]) hP hD hS hA [4, 5] (by decide) rfl
  have hPc := hpd9.1
  have hDc := hpd9.2.1
  have hFc := hpd9.2.2
  clear hpd9
  refine va_calli (va_runV (As := [Value.int men]) (rest := [Value.ref g0]) ⟨hx, hb, hml, hown, hts⟩ (c_X12_passOne_l l dC dI aC H.size g0 m_refused m_kind m_figure m_weight m_got m_setting m_tape m_letter m_letterAt m_told m_kept m_price m_offer m_gets m_yes m_buys m_ends m_carried m_row m_keptRow m_likeGets m_likePrice m_ahead men msy mdn tp mat stm him rm men (50 * wh + 40) kp (by omega)) ⟨(callB_of 1 hts (gG kw_858) rfl rfl rfl (hts _ (gw kw_13 rfl)) (hts _ (gw kw_855 rfl)) hd_X12_passOne ⟨Nat.le_of_ble_eq_true rfl, Nat.le_of_ble_eq_true rfl⟩), (hts _ (gw kw_857 rfl)), (hts _ (gw ks_41 rfl))⟩ ⟨fb_std, va_recv (q := (RX12, TX12, 33)) hK hPc (ci := 12) (q0 := 0) rfl rfl, pre_std hPc hK hDc hN⟩ rfl rfl hl.1 rfl (lv_room (Nat.le_of_ble_eq_true rfl)) dX12_passesAll_59 ⟨Nat.le_of_ble_eq_true rfl, Nat.le_of_ble_eq_true rfl⟩) hS (fun q _ h => hFc q h) hFc (fun x_12 u9 t9 H1 locs ht hvm hw_12 hB hz1 hk1 hS => ?_)
  obtain ⟨hP1, hK1, hD1⟩ := hB
  rw [ht] at hP1
  clear hK1
  try dsimp only at hw_12
  have hpd9 : PDx (dC, dI) classes A H1 [cI aC m_kind 9 u_3, cI aC m_figure 9 u_5, cI aC m_weight 9 u_7, cI aC m_got 8 u_9, cI aC m_setting 5 u_11, oX12 g0 m_refused m_kind m_figure m_weight m_got m_setting men msy mdn m_tape m_letter m_letterAt m_told tp mat stm m_kept him 0 (nI ((50 * wh + 40) + 1)) m_price m_offer m_gets m_yes m_buys m_ends m_carried m_row rm m_keptRow m_likeGets m_likePrice m_ahead, cI aC m_kept 100 kp] := jn_N (wr := [cI aC m_kind 9 u_3, cI aC m_figure 9 u_5, cI aC m_weight 9 u_7, cI aC m_got 8 u_9, cI aC m_setting 5 u_11]) hFc hk1 hP1 hD1 hP hD [4, 5] [0, 1, 2, 3, 6] rfl rfl (by decide) (by decide)
  have hP := hpd9.1
  have hD := hpd9.2
  clear hpd9
  generalize H1 = H at hP hS ⊢
  clear hPc hDc hFc hz1 hk1 hP1 hD1 ht hvm
  have hr_59 := hw_12
  refine va_put (D := (dC, dI)) (ci := 12) (v := Value.int x_12) (ty := .int) (C := RX12) (T := TX12) (N := 33) hx hb hts inX12 tyX12 tyX12_ok nmX12 hown hK hP hD hS 5 rfl rfl 6 (by decide) (hts _ (gw kw_723 rfl)) (fun _ h9 => h9) rfl (by decide +kernel) rfl rfl (Nat.le_of_ble_eq_true rfl) dX12_passesAll_62 (fun H locs hP hD hS => ?_)
  have hpd9 : PDx (dC, dI) classes A H [cI aC m_kind 9 u_3, cI aC m_figure 9 u_5, cI aC m_weight 9 u_7, cI aC m_got 8 u_9, cI aC m_setting 5 u_11, oX12 g0 m_refused m_kind m_figure m_weight m_got m_setting x_12 msy mdn m_tape m_letter m_letterAt m_told tp mat stm m_kept him 0 (nI ((50 * wh + 40) + 1)) m_price m_offer m_gets m_yes m_buys m_ends m_carried m_row rm m_keptRow m_likeGets m_likePrice m_ahead, cI aC m_kept 100 kp] := ⟨hP, hD⟩
  have hP := hpd9.1
  have hD := hpd9.2
  clear hpd9
  have hP : va_P (dC, dI) classes [cI aC m_kind 9 u_3, cI aC m_figure 9 u_5, cI aC m_weight 9 u_7, cI aC m_got 8 u_9, cI aC m_setting 5 u_11, oX12 g0 m_refused m_kind m_figure m_weight m_got m_setting x_12 msy mdn m_tape m_letter m_letterAt m_told tp mat stm m_kept him 0 (nI (50 * wh + 41)) m_price m_offer m_gets m_yes m_buys m_ends m_carried m_row rm m_keptRow m_likeGets m_likePrice m_ahead, cI aC m_kept 100 kp] H := hP
  have hD : va_D A [cI aC m_kind 9 u_3, cI aC m_figure 9 u_5, cI aC m_weight 9 u_7, cI aC m_got 8 u_9, cI aC m_setting 5 u_11, oX12 g0 m_refused m_kind m_figure m_weight m_got m_setting x_12 msy mdn m_tape m_letter m_letterAt m_told tp mat stm m_kept him 0 (nI (50 * wh + 41)) m_price m_offer m_gets m_yes m_buys m_ends m_carried m_row rm m_keptRow m_likeGets m_likePrice m_ahead, cI aC m_kept 100 kp] := hD
  refine lv_aload_n hx hb dX12_passesAll_65 rfl (lv_at hl 0 rfl) ?_
  refine lv_aload_n hx hb dX12_passesAll_66 rfl (lv_at hl 0 rfl) ?_
  refine lv_aload_n hx hb dX12_passesAll_67 rfl (lv_at hl 0 rfl) ?_
  refine va_get (D := (dC, dI)) (ci := 12) (v := Value.int msy) (C := RX12) (T := TX12) (N := 33) hx hb hts inX12 hown hK hP 5 rfl rfl 7 (by decide) (hts _ (gw kw_724 rfl)) (fun _ h9 => h9) rfl dX12_passesAll_68 ?_
  have hpd9 := pdf_N (cx := [oX12 g0 m_refused m_kind m_figure m_weight m_got m_setting x_12 msy mdn m_tape m_letter m_letterAt m_told tp mat stm m_kept him 0 (nI (50 * wh + 41)) m_price m_offer m_gets m_yes m_buys m_ends m_carried m_row rm m_keptRow m_likeGets m_likePrice m_ahead, cI aC m_kept 100 kp]) hP hD hS hA [5, 6] (by decide) rfl
  have hPc := hpd9.1
  have hDc := hpd9.2.1
  have hFc := hpd9.2.2
  clear hpd9
  refine va_calli (va_runV (As := [Value.int msy]) (rest := [Value.ref g0]) ⟨hx, hb, hml, hown, hts⟩ (c_X12_passOne_l l dC dI aC H.size g0 m_refused m_kind m_figure m_weight m_got m_setting m_tape m_letter m_letterAt m_told m_kept m_price m_offer m_gets m_yes m_buys m_ends m_carried m_row m_keptRow m_likeGets m_likePrice m_ahead x_12 msy mdn tp mat stm him rm msy (50 * wh + 41) kp (by omega)) ⟨(callB_of 1 hts (gG kw_858) rfl rfl rfl (hts _ (gw kw_13 rfl)) (hts _ (gw kw_855 rfl)) hd_X12_passOne ⟨Nat.le_of_ble_eq_true rfl, Nat.le_of_ble_eq_true rfl⟩), (hts _ (gw kw_857 rfl)), (hts _ (gw ks_41 rfl))⟩ ⟨fb_std, va_recv (q := (RX12, TX12, 33)) hK hPc (ci := 12) (q0 := 0) rfl rfl, pre_std hPc hK hDc hN⟩ rfl rfl hl.1 rfl (lv_room (Nat.le_of_ble_eq_true rfl)) dX12_passesAll_71 ⟨Nat.le_of_ble_eq_true rfl, Nat.le_of_ble_eq_true rfl⟩) hS (fun q _ h => hFc q h) hFc (fun x_13 u9 t9 H1 locs ht hvm hw_13 hB hz1 hk1 hS => ?_)
  obtain ⟨hP1, hK1, hD1⟩ := hB
  rw [ht] at hP1
  clear hK1
  try dsimp only at hw_13
  have hpd9 : PDx (dC, dI) classes A H1 [cI aC m_kind 9 u_3, cI aC m_figure 9 u_5, cI aC m_weight 9 u_7, cI aC m_got 8 u_9, cI aC m_setting 5 u_11, oX12 g0 m_refused m_kind m_figure m_weight m_got m_setting x_12 msy mdn m_tape m_letter m_letterAt m_told tp mat stm m_kept him 0 (nI ((50 * wh + 41) + 1)) m_price m_offer m_gets m_yes m_buys m_ends m_carried m_row rm m_keptRow m_likeGets m_likePrice m_ahead, cI aC m_kept 100 kp] := jn_N (wr := [cI aC m_kind 9 u_3, cI aC m_figure 9 u_5, cI aC m_weight 9 u_7, cI aC m_got 8 u_9, cI aC m_setting 5 u_11]) hFc hk1 hP1 hD1 hP hD [5, 6] [0, 1, 2, 3, 4] rfl rfl (by decide) (by decide)
  have hP := hpd9.1
  have hD := hpd9.2
  clear hpd9
  generalize H1 = H at hP hS ⊢
  clear hPc hDc hFc hz1 hk1 hP1 hD1 ht hvm
  have hr_71 := hw_13
  refine va_put (D := (dC, dI)) (ci := 12) (v := Value.int x_13) (ty := .int) (C := RX12) (T := TX12) (N := 33) hx hb hts inX12 tyX12 tyX12_ok nmX12 hown hK hP hD hS 5 rfl rfl 7 (by decide) (hts _ (gw kw_724 rfl)) (fun _ h9 => h9) rfl (by decide +kernel) rfl rfl (Nat.le_of_ble_eq_true rfl) dX12_passesAll_74 (fun H locs hP hD hS => ?_)
  have hpd9 : PDx (dC, dI) classes A H [cI aC m_kind 9 u_3, cI aC m_figure 9 u_5, cI aC m_weight 9 u_7, cI aC m_got 8 u_9, cI aC m_setting 5 u_11, oX12 g0 m_refused m_kind m_figure m_weight m_got m_setting x_12 x_13 mdn m_tape m_letter m_letterAt m_told tp mat stm m_kept him 0 (nI ((50 * wh + 41) + 1)) m_price m_offer m_gets m_yes m_buys m_ends m_carried m_row rm m_keptRow m_likeGets m_likePrice m_ahead, cI aC m_kept 100 kp] := ⟨hP, hD⟩
  have hP := hpd9.1
  have hD := hpd9.2
  clear hpd9
  have hP : va_P (dC, dI) classes [cI aC m_kind 9 u_3, cI aC m_figure 9 u_5, cI aC m_weight 9 u_7, cI aC m_got 8 u_9, cI aC m_setting 5 u_11, oX12 g0 m_refused m_kind m_figure m_weight m_got m_setting x_12 x_13 mdn m_tape m_letter m_letterAt m_told tp mat stm m_kept him 0 (nI (50 * wh + 42)) m_price m_offer m_gets m_yes m_buys m_ends m_carried m_row rm m_keptRow m_likeGets m_likePrice m_ahead, cI aC m_kept 100 kp] H := hP
  have hD : va_D A [cI aC m_kind 9 u_3, cI aC m_figure 9 u_5, cI aC m_weight 9 u_7, cI aC m_got 8 u_9, cI aC m_setting 5 u_11, oX12 g0 m_refused m_kind m_figure m_weight m_got m_setting x_12 x_13 mdn m_tape m_letter m_letterAt m_told tp mat stm m_kept him 0 (nI (50 * wh + 42)) m_price m_offer m_gets m_yes m_buys m_ends m_carried m_row rm m_keptRow m_likeGets m_likePrice m_ahead, cI aC m_kept 100 kp] := hD
  refine lv_aload_n hx hb dX12_passesAll_77 rfl (lv_at hl 0 rfl) ?_
  refine lv_aload_n hx hb dX12_passesAll_78 rfl (lv_at hl 0 rfl) ?_
  refine lv_aload_n hx hb dX12_passesAll_79 rfl (lv_at hl 0 rfl) ?_
  refine va_get (D := (dC, dI)) (ci := 12) (v := Value.int mdn) (C := RX12) (T := TX12) (N := 33) hx hb hts inX12 hown hK hP 5 rfl rfl 8 (by decide) (hts _ (gw kw_725 rfl)) (fun _ h9 => h9) rfl dX12_passesAll_80 ?_
  have hpd9 := pdf_N (cx := [oX12 g0 m_refused m_kind m_figure m_weight m_got m_setting x_12 x_13 mdn m_tape m_letter m_letterAt m_told tp mat stm m_kept him 0 (nI (50 * wh + 42)) m_price m_offer m_gets m_yes m_buys m_ends m_carried m_row rm m_keptRow m_likeGets m_likePrice m_ahead, cI aC m_kept 100 kp]) hP hD hS hA [5, 6] (by decide) rfl
  have hPc := hpd9.1
  have hDc := hpd9.2.1
  have hFc := hpd9.2.2
  clear hpd9
  refine va_calli (va_runV (As := [Value.int mdn]) (rest := [Value.ref g0]) ⟨hx, hb, hml, hown, hts⟩ (c_X12_passOne_l l dC dI aC H.size g0 m_refused m_kind m_figure m_weight m_got m_setting m_tape m_letter m_letterAt m_told m_kept m_price m_offer m_gets m_yes m_buys m_ends m_carried m_row m_keptRow m_likeGets m_likePrice m_ahead x_12 x_13 mdn tp mat stm him rm mdn (50 * wh + 42) kp (by omega)) ⟨(callB_of 1 hts (gG kw_858) rfl rfl rfl (hts _ (gw kw_13 rfl)) (hts _ (gw kw_855 rfl)) hd_X12_passOne ⟨Nat.le_of_ble_eq_true rfl, Nat.le_of_ble_eq_true rfl⟩), (hts _ (gw kw_857 rfl)), (hts _ (gw ks_41 rfl))⟩ ⟨fb_std, va_recv (q := (RX12, TX12, 33)) hK hPc (ci := 12) (q0 := 0) rfl rfl, pre_std hPc hK hDc hN⟩ rfl rfl hl.1 rfl (lv_room (Nat.le_of_ble_eq_true rfl)) dX12_passesAll_83 ⟨Nat.le_of_ble_eq_true rfl, Nat.le_of_ble_eq_true rfl⟩) hS (fun q _ h => hFc q h) hFc (fun x_14 u9 t9 H1 locs ht hvm hw_14 hB hz1 hk1 hS => ?_)
  obtain ⟨hP1, hK1, hD1⟩ := hB
  rw [ht] at hP1
  clear hK1
  try dsimp only at hw_14
  have hpd9 : PDx (dC, dI) classes A H1 [cI aC m_kind 9 u_3, cI aC m_figure 9 u_5, cI aC m_weight 9 u_7, cI aC m_got 8 u_9, cI aC m_setting 5 u_11, oX12 g0 m_refused m_kind m_figure m_weight m_got m_setting x_12 x_13 mdn m_tape m_letter m_letterAt m_told tp mat stm m_kept him 0 (nI ((50 * wh + 42) + 1)) m_price m_offer m_gets m_yes m_buys m_ends m_carried m_row rm m_keptRow m_likeGets m_likePrice m_ahead, cI aC m_kept 100 kp] := jn_N (wr := [cI aC m_kind 9 u_3, cI aC m_figure 9 u_5, cI aC m_weight 9 u_7, cI aC m_got 8 u_9, cI aC m_setting 5 u_11]) hFc hk1 hP1 hD1 hP hD [5, 6] [0, 1, 2, 3, 4] rfl rfl (by decide) (by decide)
  have hP := hpd9.1
  have hD := hpd9.2
  clear hpd9
  generalize H1 = H at hP hS ⊢
  clear hPc hDc hFc hz1 hk1 hP1 hD1 ht hvm
  have hr_83 := hw_14
  refine va_put (D := (dC, dI)) (ci := 12) (v := Value.int x_14) (ty := .int) (C := RX12) (T := TX12) (N := 33) hx hb hts inX12 tyX12 tyX12_ok nmX12 hown hK hP hD hS 5 rfl rfl 8 (by decide) (hts _ (gw kw_725 rfl)) (fun _ h9 => h9) rfl (by decide +kernel) rfl rfl (Nat.le_of_ble_eq_true rfl) dX12_passesAll_86 (fun H locs hP hD hS => ?_)
  have hpd9 : PDx (dC, dI) classes A H [cI aC m_kind 9 u_3, cI aC m_figure 9 u_5, cI aC m_weight 9 u_7, cI aC m_got 8 u_9, cI aC m_setting 5 u_11, oX12 g0 m_refused m_kind m_figure m_weight m_got m_setting x_12 x_13 x_14 m_tape m_letter m_letterAt m_told tp mat stm m_kept him 0 (nI ((50 * wh + 42) + 1)) m_price m_offer m_gets m_yes m_buys m_ends m_carried m_row rm m_keptRow m_likeGets m_likePrice m_ahead, cI aC m_kept 100 kp] := ⟨hP, hD⟩
  have hP := hpd9.1
  have hD := hpd9.2
  clear hpd9
  have hpd9 := pd_N (cx := [oX12 g0 m_refused m_kind m_figure m_weight m_got m_setting x_12 x_13 x_14 m_tape m_letter m_letterAt m_told tp mat stm m_kept him 0 (nI ((50 * wh + 42) + 1)) m_price m_offer m_gets m_yes m_buys m_ends m_carried m_row rm m_keptRow m_likeGets m_likePrice m_ahead, cI aC m_kept 100 kp, cI aC m_kind 9 u_3, cI aC m_figure 9 u_5, cI aC m_weight 9 u_7, cI aC m_got 8 u_9, cI aC m_setting 5 u_11]) hP hD [5, 6, 0, 1, 2, 3, 4] (by decide) rfl
  have hP9 := hpd9.1
  have hD9 := hpd9.2
  refine W.widen (k := 0) (n := 0) (by omega) (by omega) ?_
  exact W.vret hx hb hr (fun t ht hW => ⟨⟨((nI ((50 * wh + 42) + 1)), x_12, x_13, x_14, u_3, u_5, u_7, u_9, u_11), rfl, ⟨fun j hj => (hq_18 j hj).symm, fun j hj => (hq_26 j hj).symm, fun j hj => (hq_34 j hj).symm, fun j hj => (hq_42 j hj).symm, fun j hj => (hq_50 j hj).symm, hr_59.symm, hr_71.symm, hr_83.symm⟩, by rw [ht]; exact hP9, va_K.moved hW.alike hK, hD9⟩, hS.F ht⟩) hS.2.2 dX12_passesAll_89

end

section
/-! 65.mev3 -/
theorem PK_ev {b n sn : Nat} {dn : Int32} {K F W S5 : Nat → Nat} {kp k f w p s k2 f2 w2 p2 s2 : Nat → Int32} {n2 sn2 dn2 n3 sn3 dn3 : Int32} (h : PK b kp k f w p s n3 sn3 dn3) (h2 : PK b kp k2 f2 w2 p2 s2 n2 sn2 dn2) (he : EVS n sn dn K F W S5 k f w s) : EVS n sn dn K F W S5 k2 f2 w2 s2 ∧ (∀ j, j < 8 → p2 j = p j) ∧ n2 = n3 ∧ sn2 = sn3 ∧ dn2 = dn3 := by
  obtain ⟨a1, a2, a3, a4, a5, a6, a7, a8⟩ := h
  obtain ⟨b1, b2, b3, b4, b5, b6, b7, b8⟩ := h2
  exact ⟨EVS_cp he (fun j hj => (b1 j (by omega)).symm.trans (a1 j (by omega))) (fun j hj => (b2 j (by omega)).symm.trans (a2 j (by omega))) (fun j hj => (b3 j (by omega)).symm.trans (a3 j (by omega))) (fun j hj => (b5 j hj).symm.trans (a5 j hj)), fun j hj => (b4 j hj).symm.trans (a4 j hj), b6.symm.trans a6, b7.symm.trans a7, b8.symm.trans a8⟩
theorem w5 {w : Int32} (h : ¬ 4 < w) : w < 5 := Int32.lt_of_le_of_lt (Int32.not_lt.mp h) (by decide)
theorem w5n {w : Int32} (h : 4 < w) : 5 ≤ w := by
  by_cases q : 5 ≤ w
  · exact q
  · exfalso
    have h0 : ¬ w < 0 := fun z => absurd (Int32.lt_trans h z) (by decide)
    obtain ⟨j, j1, j2⟩ := ix_of (n := 5) (by omega) h0 (fun z => q z)
    subst j2
    have := (nI_ltI (a := 4) (b := j) (by omega) (by omega)).mp h
    omega
theorem w3 {w : Int32} (h0 : ¬ w < 0) (h2 : ¬ 2 < w) (h : ¬ w = 0) (h1 : ¬ w = 1) : w = 2 := by
  obtain ⟨j, j1, j2⟩ := ix_of (n := 3) (by omega) h0 (fun z => h2 (Int32.lt_of_lt_of_le (by decide) z))
  subst j2
  have : j ≠ 0 := fun e => h (by rw [e]; rfl)
  have : j ≠ 1 := fun e => h1 (by rw [e]; rfl)
  have : j = 2 := by omega
  subst this; rfl

set_option maxHeartbeats 1000000 in
set_option maxRecDepth 100000 in
/-- X12_image -/
theorem c_X12_image (l : Launch) (dC : Nat → ClassId) (dI : Nat → Nat → Nat) (aC : Nat → ClassId) (sz : Nat) (g0 : Nat) (m_refused : Nat) (m_kind : Nat) (m_figure : Nat) (m_weight : Nat) (m_got : Nat) (m_setting : Nat) (m_tape : Nat) (m_letter : Nat) (m_letterAt : Nat) (m_told : Nat) (m_kept : Nat) (m_price : Nat) (m_offer : Nat) (m_gets : Nat) (m_yes : Nat) (m_buys : Nat) (m_ends : Nat) (m_carried : Nat) (m_row : Nat) (m_keptRow : Nat) (m_likeGets : Nat) (m_likePrice : Nat) (m_ahead : Nat) (tp : Int32) (mat : Int32) (stm : Int32) (him : Int32) (ki : Int32) (crs : Int32) (rm : Int32) (n : Nat) (sn : Nat) (dn : Int32) (kp : Nat → Int32) (kf : Nat → Int32) (ff : Nat → Int32) (wf : Nat → Int32) (pf : Nat → Int32) (stf : Nat → Int32)  : Met l yX12_image (wW yX12_image cX12_image 1 (some .int)) ({ frames := 2, cells := 0, slots := 0, locals := 44 } : Room) (va_Pc [Value.ref g0] (fun U => U.heap.size = sz ∧ va_P (dC, dI) classes [oX12 g0 m_refused m_kind m_figure m_weight m_got m_setting (nI n) (nI sn) dn m_tape m_letter m_letterAt m_told tp mat stm m_kept him ki crs m_price m_offer m_gets m_yes m_buys m_ends m_carried m_row rm m_keptRow m_likeGets m_likePrice m_ahead, cI aC m_kept 100 kp, cI aC m_kind 9 kf, cI aC m_figure 9 ff, cI aC m_weight 9 wf, cI aC m_got 8 pf, cI aC m_setting 5 stf] U.heap ∧ va_K (dC, dI) classes (TY aC) U ∧ va_D (fun _ => True) [oX12 g0 m_refused m_kind m_figure m_weight m_got m_setting (nI n) (nI sn) dn m_tape m_letter m_letterAt m_told tp mat stm m_kept him ki crs m_price m_offer m_gets m_yes m_buys m_ends m_carried m_row rm m_keptRow m_likeGets m_likePrice m_ahead, cI aC m_kept 100 kp, cI aC m_kind 9 kf, cI aC m_figure 9 ff, cI aC m_weight 9 wf, cI aC m_got 8 pf, cI aC m_setting 5 stf] ∧ NX U)) (va_Qi (fun (r : Int32) (u : Int32 × (Nat → Int32)) => match u with | (cu2, kq) => r = nI n ∧ PK 0 kq kf ff wf pf stf (nI n) (nI sn) dn ∧ ∀ q, 43 ≤ q → kq q = kp q) (fun (u : Int32 × (Nat → Int32)) (t : State) => match u with | (cu2, kq) => va_P (dC, dI) classes [oX12 g0 m_refused m_kind m_figure m_weight m_got m_setting (nI n) (nI sn) dn m_tape m_letter m_letterAt m_told tp mat stm m_kept 1 1 cu2 m_price m_offer m_gets m_yes m_buys m_ends m_carried m_row rm m_keptRow m_likeGets m_likePrice m_ahead, cI aC m_kept 100 kq, cI aC m_kind 9 kf, cI aC m_figure 9 ff, cI aC m_weight 9 wf, cI aC m_got 8 pf, cI aC m_setting 5 stf] t.heap ∧ va_K (dC, dI) classes (TY aC) t ∧ va_D (va_A [oX12 g0 m_refused m_kind m_figure m_weight m_got m_setting (nI n) (nI sn) dn m_tape m_letter m_letterAt m_told tp mat stm m_kept him ki crs m_price m_offer m_gets m_yes m_buys m_ends m_carried m_row rm m_keptRow m_likeGets m_likePrice m_ahead, cI aC m_kept 100 kp, cI aC m_kind 9 kf, cI aC m_figure 9 ff, cI aC m_weight 9 wf, cI aC m_got 8 pf, cI aC m_setting 5 stf] sz) [oX12 g0 m_refused m_kind m_figure m_weight m_got m_setting (nI n) (nI sn) dn m_tape m_letter m_letterAt m_told tp mat stm m_kept 1 1 cu2 m_price m_offer m_gets m_yes m_buys m_ends m_carried m_row rm m_keptRow m_likeGets m_likePrice m_ahead, cI aC m_kept 100 kq, cI aC m_kind 9 kf, cI aC m_figure 9 ff, cI aC m_weight 9 wf, cI aC m_got 8 pf, cI aC m_setting 5 stf]) (va_A [oX12 g0 m_refused m_kind m_figure m_weight m_got m_setting (nI n) (nI sn) dn m_tape m_letter m_letterAt m_told tp mat stm m_kept him ki crs m_price m_offer m_gets m_yes m_buys m_ends m_carried m_row rm m_keptRow m_likeGets m_likePrice m_ahead, cI aC m_kept 100 kp, cI aC m_kind 9 kf, cI aC m_figure 9 ff, cI aC m_weight 9 wf, cI aC m_got 8 pf, cI aC m_setting 5 stf] sz)) 0 0 (va_A [oX12 g0 m_refused m_kind m_figure m_weight m_got m_setting (nI n) (nI sn) dn m_tape m_letter m_letterAt m_told tp mat stm m_kept him ki crs m_price m_offer m_gets m_yes m_buys m_ends m_carried m_row rm m_keptRow m_likeGets m_likePrice m_ahead, cI aC m_kept 100 kp, cI aC m_kind 9 kf, cI aC m_figure 9 ff, cI aC m_weight 9 wf, cI aC m_got 8 pf, cI aC m_setting 5 stf] sz) := by
  refine Met.ofW (cc := cX12_image) (maxL := 1) (ret := (some .int)) (by decide) rfl ?_
  intro p e s m args below meth c s₁ B hml hv
  obtain ⟨rfl, hsz, hP, hK, hD0, hN⟩ := hv
  have hx := B.exec
  have hb := B.bytes
  have hr := B.returns
  have hts0 := atoms_spec (ws := (wW yX12_image cX12_image 1 (some .int))) B.pre
  have hts : ∀ w9 ∈ lw_G, w9.before ([Value.ref g0] : List Value).toArray s = true := fun w9 h9 => hts0 w9 (List.mem_cons_of_mem _ h9)
  have hown : s.vm.findClass RX12 = some m.cls := findClass_of_methodNamed (x := yX12_image) B.named
  have hlocks := B.notSynchronized
  subst hsz
  have hD := hD0.self (sz := s.heap.size)
  generalize hAe : va_A [oX12 g0 m_refused m_kind m_figure m_weight m_got m_setting (nI n) (nI sn) dn m_tape m_letter m_letterAt m_told tp mat stm m_kept him ki crs m_price m_offer m_gets m_yes m_buys m_ends m_carried m_row rm m_keptRow m_likeGets m_likePrice m_ahead, cI aC m_kept 100 kp, cI aC m_kind 9 kf, cI aC m_figure 9 ff, cI aC m_weight 9 wf, cI aC m_got 8 pf, cI aC m_setting 5 stf] s.heap.size = A at hD ⊢
  have hA : ∀ q : Nat, s.heap.size ≤ q → A q := fun q h => by rw [← hAe]; exact Or.inr h
  obtain ⟨H, hHe⟩ : ∃ H : Heap, H = s.heap := ⟨_, rfl⟩
  have hS : va_S A s.heap H [] := by rw [hHe]; exact va_S.rf
  have hP : va_P (dC, dI) classes [oX12 g0 m_refused m_kind m_figure m_weight m_got m_setting (nI n) (nI sn) dn m_tape m_letter m_letterAt m_told tp mat stm m_kept him ki crs m_price m_offer m_gets m_yes m_buys m_ends m_carried m_row rm m_keptRow m_likeGets m_likePrice m_ahead, cI aC m_kept 100 kp, cI aC m_kind 9 kf, cI aC m_figure 9 ff, cI aC m_weight 9 wf, cI aC m_got 8 pf, cI aC m_setting 5 stf] H := by rw [hHe]; exact hP
  have hl := lv_entry ([Value.ref g0]) (n := 1) (Nat.le_of_ble_eq_true rfl)
  rw [lg_entry_eq]
  generalize (lg_sl ([Value.ref g0]) ++ List.replicate (1 - (lg_sl ([Value.ref g0])).length) Slot.unset).toArray = ls at hl ⊢
  have hl : lv_has ls 1 [(0, Value.ref g0)] := hl
  rw [← hHe]
  refine lv_aload_n hx hb dX12_image_0 rfl (lv_at hl 0 rfl) ?_
  refine lv_iconst (v := 1) hx hb dX12_image_1 (by decide) ?_
  refine va_put (D := (dC, dI)) (ci := 12) (v := Value.int 1) (ty := .boolean) (C := RX12) (T := TX12) (N := 33) hx hb hts inX12 tyX12 tyX12_ok nmX12 hown hK hP hD hS 0 rfl rfl 17 (by decide) (hts _ (gw kw_734 rfl)) (fun _ h9 => h9) rfl (by decide +kernel) rfl rfl (Nat.le_of_ble_eq_true rfl) dX12_image_2 (fun H locs hP hD hS => ?_)
  have hpd9 : PDx (dC, dI) classes A H [oX12 g0 m_refused m_kind m_figure m_weight m_got m_setting (nI n) (nI sn) dn m_tape m_letter m_letterAt m_told tp mat stm m_kept 1 ki crs m_price m_offer m_gets m_yes m_buys m_ends m_carried m_row rm m_keptRow m_likeGets m_likePrice m_ahead, cI aC m_kept 100 kp, cI aC m_kind 9 kf, cI aC m_figure 9 ff, cI aC m_weight 9 wf, cI aC m_got 8 pf, cI aC m_setting 5 stf] := ⟨hP, hD⟩
  have hP := hpd9.1
  have hD := hpd9.2
  clear hpd9
  refine lv_aload_n hx hb dX12_image_5 rfl (lv_at hl 0 rfl) ?_
  refine lv_iconst (v := 0) hx hb dX12_image_6 (by decide) ?_
  refine lv_iconst (v := 1) hx hb dX12_image_7 (by decide) ?_
  have hpd9 := pdf_N (cx := [oX12 g0 m_refused m_kind m_figure m_weight m_got m_setting (nI n) (nI sn) dn m_tape m_letter m_letterAt m_told tp mat stm m_kept 1 ki crs m_price m_offer m_gets m_yes m_buys m_ends m_carried m_row rm m_keptRow m_likeGets m_likePrice m_ahead, cI aC m_kept 100 kp, cI aC m_kind 9 kf, cI aC m_figure 9 ff, cI aC m_weight 9 wf, cI aC m_got 8 pf, cI aC m_setting 5 stf]) hP hD hS hA [0, 1, 2, 3, 4, 5, 6] (by decide) rfl
  have hPc := hpd9.1
  have hDc := hpd9.2.1
  have hFc := hpd9.2.2
  clear hpd9
  refine va_callv (va_runV (As := [Value.int 0, Value.int 1]) (rest := []) ⟨hx, hb, hml, hown, hts⟩ (c_X12_passesAll_k l dC dI aC H.size g0 m_refused m_kind m_figure m_weight m_got m_setting m_tape m_letter m_letterAt m_told m_kept m_price m_offer m_gets m_yes m_buys m_ends m_carried m_row m_keptRow m_likeGets m_likePrice m_ahead (nI n) (nI sn) dn tp mat stm 1 ki crs rm kp 0 kf ff wf pf stf (by omega)) ⟨(callB_of 2 hts (gG kw_850) rfl rfl rfl (hts _ (gw kw_13 rfl)) (hts _ (gw kw_847 rfl)) hd_X12_passesAll ⟨Nat.le_of_ble_eq_true rfl, Nat.le_of_ble_eq_true rfl⟩), (hts _ (gw kw_849 rfl)), (hts _ (gw ks_39 rfl))⟩ ⟨fb_std, va_recv (q := (RX12, TX12, 33)) hK hPc (ci := 12) (q0 := 0) rfl rfl, pre_std hPc hK hDc hN⟩ rfl rfl hl.1 rfl (lv_room (Nat.le_of_ble_eq_true rfl)) dX12_image_8 ⟨Nat.le_of_ble_eq_true rfl, Nat.le_of_ble_eq_true rfl⟩) hS (fun q _ h => hFc q h) hFc (fun u9 t9 H1 locs ht hvm hw_1 hB hz1 hk1 hS => ?_)
  obtain ⟨u_2, u_3⟩ := u9
  obtain ⟨hP1, hK1, hD1⟩ := hB
  rw [ht] at hP1
  clear hK1
  try dsimp only at hw_1
  have hpd9 : PDx (dC, dI) classes A H1 [oX12 g0 m_refused m_kind m_figure m_weight m_got m_setting (nI n) (nI sn) dn m_tape m_letter m_letterAt m_told tp mat stm m_kept 1 1 u_2 m_price m_offer m_gets m_yes m_buys m_ends m_carried m_row rm m_keptRow m_likeGets m_likePrice m_ahead, cI aC m_kept 100 u_3, cI aC m_kind 9 kf, cI aC m_figure 9 ff, cI aC m_weight 9 wf, cI aC m_got 8 pf, cI aC m_setting 5 stf] := jn_N (wr := []) hFc hk1 hP1 hD1 hP hD [0, 1, 2, 3, 4, 5, 6] [] rfl rfl (by decide) (by decide)
  have hP := hpd9.1
  have hD := hpd9.2
  clear hpd9
  generalize H1 = H at hP hS ⊢
  clear hPc hDc hFc hz1 hk1 hP1 hD1 ht hvm
  obtain ⟨hp1, hp2⟩ := hw_1
  refine lv_aload_n hx hb dX12_image_11 rfl (lv_at hl 0 rfl) ?_
  refine va_get (D := (dC, dI)) (ci := 12) (v := Value.int (nI n)) (C := RX12) (T := TX12) (N := 33) hx hb hts inX12 hown hK hP 0 rfl rfl 6 (by decide) (hts _ (gw kw_723 rfl)) (fun _ h9 => h9) rfl dX12_image_12 ?_
  have hpd9 := pd_N (cx := [oX12 g0 m_refused m_kind m_figure m_weight m_got m_setting (nI n) (nI sn) dn m_tape m_letter m_letterAt m_told tp mat stm m_kept 1 1 u_2 m_price m_offer m_gets m_yes m_buys m_ends m_carried m_row rm m_keptRow m_likeGets m_likePrice m_ahead, cI aC m_kept 100 u_3, cI aC m_kind 9 kf, cI aC m_figure 9 ff, cI aC m_weight 9 wf, cI aC m_got 8 pf, cI aC m_setting 5 stf]) hP hD [0, 1, 2, 3, 4, 5, 6] (by decide) rfl
  have hP9 := hpd9.1
  have hD9 := hpd9.2
  refine W.widen (k := 0) (n := 0) (by omega) (by omega) ?_
  exact W.iret (v := nI n) hx hb hr (fun t ht hW => ⟨⟨(nI n), (u_2, u_3), rfl, ⟨rfl, hp1, fun q hq => hp2 q (Or.inr hq)⟩, by rw [ht]; exact hP9, va_K.moved hW.alike hK, hD9⟩, hS.F ht⟩) hS.2.2 dX12_image_15

set_option maxHeartbeats 1000000 in
set_option maxRecDepth 100000 in
/-- X12_restore -/
theorem c_X12_restore (l : Launch) (dC : Nat → ClassId) (dI : Nat → Nat → Nat) (aC : Nat → ClassId) (sz : Nat) (g0 : Nat) (m_refused : Nat) (m_kind : Nat) (m_figure : Nat) (m_weight : Nat) (m_got : Nat) (m_setting : Nat) (m_tape : Nat) (m_letter : Nat) (m_letterAt : Nat) (m_told : Nat) (m_kept : Nat) (m_price : Nat) (m_offer : Nat) (m_gets : Nat) (m_yes : Nat) (m_buys : Nat) (m_ends : Nat) (m_carried : Nat) (m_row : Nat) (m_keptRow : Nat) (m_likeGets : Nat) (m_likePrice : Nat) (m_ahead : Nat) (tp : Int32) (mat : Int32) (stm : Int32) (him : Int32) (ki : Int32) (crs : Int32) (rm : Int32) (n : Nat) (sn : Nat) (dn : Int32) (kp : Nat → Int32) (kf : Nat → Int32) (ff : Nat → Int32) (wf : Nat → Int32) (pf : Nat → Int32) (stf : Nat → Int32) (mr : Nat → Int32)  : Met l yX12_restore (wW yX12_restore cX12_restore 1 (some .int)) ({ frames := 2, cells := 0, slots := 0, locals := 44 } : Room) (va_Pc [Value.ref g0] (fun U => U.heap.size = sz ∧ va_P (dC, dI) classes [oX12 g0 m_refused m_kind m_figure m_weight m_got m_setting (nI n) (nI sn) dn m_tape m_letter m_letterAt m_told tp mat stm m_kept him ki crs m_price m_offer m_gets m_yes m_buys m_ends m_carried m_row rm m_keptRow m_likeGets m_likePrice m_ahead, cI aC m_kept 100 kp, cI aC m_kind 9 kf, cI aC m_figure 9 ff, cI aC m_weight 9 wf, cI aC m_got 8 pf, cI aC m_setting 5 stf, cI aC m_refused 7 mr] U.heap ∧ va_K (dC, dI) classes (TY aC) U ∧ va_D (fun _ => True) [oX12 g0 m_refused m_kind m_figure m_weight m_got m_setting (nI n) (nI sn) dn m_tape m_letter m_letterAt m_told tp mat stm m_kept him ki crs m_price m_offer m_gets m_yes m_buys m_ends m_carried m_row rm m_keptRow m_likeGets m_likePrice m_ahead, cI aC m_kept 100 kp, cI aC m_kind 9 kf, cI aC m_figure 9 ff, cI aC m_weight 9 wf, cI aC m_got 8 pf, cI aC m_setting 5 stf, cI aC m_refused 7 mr] ∧ NX U)) (va_Qi (fun (r : Int32) (u : Int32 × Int32 × Int32 × Int32 × Int32 × (Nat → Int32) × (Nat → Int32) × (Nat → Int32) × (Nat → Int32) × (Nat → Int32) × (Nat → Int32)) => match u with | (cu2, ki2, men2, msy2, mdn2, kf2, ff2, wf2, pf2, stf2, mr2) => (him = 0 → r = -3 ∧ men2 = nI n ∧ msy2 = nI sn ∧ mdn2 = dn ∧ kf2 = kf ∧ ff2 = ff ∧ wf2 = wf ∧ pf2 = pf ∧ stf2 = stf) ∧ (him ≠ 0 → r = men2 ∧ PK 0 kp kf2 ff2 wf2 pf2 stf2 men2 msy2 mdn2)) (fun (u : Int32 × Int32 × Int32 × Int32 × Int32 × (Nat → Int32) × (Nat → Int32) × (Nat → Int32) × (Nat → Int32) × (Nat → Int32) × (Nat → Int32)) (t : State) => match u with | (cu2, ki2, men2, msy2, mdn2, kf2, ff2, wf2, pf2, stf2, mr2) => va_P (dC, dI) classes [oX12 g0 m_refused m_kind m_figure m_weight m_got m_setting men2 msy2 mdn2 m_tape m_letter m_letterAt m_told tp mat stm m_kept him ki2 cu2 m_price m_offer m_gets m_yes m_buys m_ends m_carried m_row rm m_keptRow m_likeGets m_likePrice m_ahead, cI aC m_kept 100 kp, cI aC m_kind 9 kf2, cI aC m_figure 9 ff2, cI aC m_weight 9 wf2, cI aC m_got 8 pf2, cI aC m_setting 5 stf2, cI aC m_refused 7 mr2] t.heap ∧ va_K (dC, dI) classes (TY aC) t ∧ va_D (va_A [oX12 g0 m_refused m_kind m_figure m_weight m_got m_setting (nI n) (nI sn) dn m_tape m_letter m_letterAt m_told tp mat stm m_kept him ki crs m_price m_offer m_gets m_yes m_buys m_ends m_carried m_row rm m_keptRow m_likeGets m_likePrice m_ahead, cI aC m_kept 100 kp, cI aC m_kind 9 kf, cI aC m_figure 9 ff, cI aC m_weight 9 wf, cI aC m_got 8 pf, cI aC m_setting 5 stf, cI aC m_refused 7 mr] sz) [oX12 g0 m_refused m_kind m_figure m_weight m_got m_setting men2 msy2 mdn2 m_tape m_letter m_letterAt m_told tp mat stm m_kept him ki2 cu2 m_price m_offer m_gets m_yes m_buys m_ends m_carried m_row rm m_keptRow m_likeGets m_likePrice m_ahead, cI aC m_kept 100 kp, cI aC m_kind 9 kf2, cI aC m_figure 9 ff2, cI aC m_weight 9 wf2, cI aC m_got 8 pf2, cI aC m_setting 5 stf2, cI aC m_refused 7 mr2]) (va_A [oX12 g0 m_refused m_kind m_figure m_weight m_got m_setting (nI n) (nI sn) dn m_tape m_letter m_letterAt m_told tp mat stm m_kept him ki crs m_price m_offer m_gets m_yes m_buys m_ends m_carried m_row rm m_keptRow m_likeGets m_likePrice m_ahead, cI aC m_kept 100 kp, cI aC m_kind 9 kf, cI aC m_figure 9 ff, cI aC m_weight 9 wf, cI aC m_got 8 pf, cI aC m_setting 5 stf, cI aC m_refused 7 mr] sz)) 0 0 (va_A [oX12 g0 m_refused m_kind m_figure m_weight m_got m_setting (nI n) (nI sn) dn m_tape m_letter m_letterAt m_told tp mat stm m_kept him ki crs m_price m_offer m_gets m_yes m_buys m_ends m_carried m_row rm m_keptRow m_likeGets m_likePrice m_ahead, cI aC m_kept 100 kp, cI aC m_kind 9 kf, cI aC m_figure 9 ff, cI aC m_weight 9 wf, cI aC m_got 8 pf, cI aC m_setting 5 stf, cI aC m_refused 7 mr] sz) := by
  refine Met.ofW (cc := cX12_restore) (maxL := 1) (ret := (some .int)) (by decide) rfl ?_
  intro p e s m args below meth c s₁ B hml hv
  obtain ⟨rfl, hsz, hP, hK, hD0, hN⟩ := hv
  have hx := B.exec
  have hb := B.bytes
  have hr := B.returns
  have hts0 := atoms_spec (ws := (wW yX12_restore cX12_restore 1 (some .int))) B.pre
  have hts : ∀ w9 ∈ lw_G, w9.before ([Value.ref g0] : List Value).toArray s = true := fun w9 h9 => hts0 w9 (List.mem_cons_of_mem _ h9)
  have hown : s.vm.findClass RX12 = some m.cls := findClass_of_methodNamed (x := yX12_restore) B.named
  have hlocks := B.notSynchronized
  subst hsz
  have hD := hD0.self (sz := s.heap.size)
  generalize hAe : va_A [oX12 g0 m_refused m_kind m_figure m_weight m_got m_setting (nI n) (nI sn) dn m_tape m_letter m_letterAt m_told tp mat stm m_kept him ki crs m_price m_offer m_gets m_yes m_buys m_ends m_carried m_row rm m_keptRow m_likeGets m_likePrice m_ahead, cI aC m_kept 100 kp, cI aC m_kind 9 kf, cI aC m_figure 9 ff, cI aC m_weight 9 wf, cI aC m_got 8 pf, cI aC m_setting 5 stf, cI aC m_refused 7 mr] s.heap.size = A at hD ⊢
  have hA : ∀ q : Nat, s.heap.size ≤ q → A q := fun q h => by rw [← hAe]; exact Or.inr h
  obtain ⟨H, hHe⟩ : ∃ H : Heap, H = s.heap := ⟨_, rfl⟩
  have hS : va_S A s.heap H [] := by rw [hHe]; exact va_S.rf
  have hP : va_P (dC, dI) classes [oX12 g0 m_refused m_kind m_figure m_weight m_got m_setting (nI n) (nI sn) dn m_tape m_letter m_letterAt m_told tp mat stm m_kept him ki crs m_price m_offer m_gets m_yes m_buys m_ends m_carried m_row rm m_keptRow m_likeGets m_likePrice m_ahead, cI aC m_kept 100 kp, cI aC m_kind 9 kf, cI aC m_figure 9 ff, cI aC m_weight 9 wf, cI aC m_got 8 pf, cI aC m_setting 5 stf, cI aC m_refused 7 mr] H := by rw [hHe]; exact hP
  have hl := lv_entry ([Value.ref g0]) (n := 1) (Nat.le_of_ble_eq_true rfl)
  rw [lg_entry_eq]
  generalize (lg_sl ([Value.ref g0]) ++ List.replicate (1 - (lg_sl ([Value.ref g0])).length) Slot.unset).toArray = ls at hl ⊢
  have hl : lv_has ls 1 [(0, Value.ref g0)] := hl
  rw [← hHe]
  refine lv_aload_n hx hb dX12_restore_0 rfl (lv_at hl 0 rfl) ?_
  refine va_get (D := (dC, dI)) (ci := 12) (v := Value.int him) (C := RX12) (T := TX12) (N := 33) hx hb hts inX12 hown hK hP 0 rfl rfl 17 (by decide) (hts _ (gw kw_734 rfl)) (fun _ h9 => h9) rfl dX12_restore_1 ?_
  refine lv_if_ne (tgt := 14) hx hb dX12_restore_4 (by decide) (fun c_1 => ?_) (fun c_1 => ?_)
  · refine lv_aload_n hx hb dX12_restore_14 rfl (lv_at hl 0 rfl) ?_
    refine lv_iconst (v := 0) hx hb dX12_restore_15 (by decide) ?_
    refine lv_iconst (v := 0) hx hb dX12_restore_16 (by decide) ?_
    have hpd9 := pdf_N (cx := [oX12 g0 m_refused m_kind m_figure m_weight m_got m_setting (nI n) (nI sn) dn m_tape m_letter m_letterAt m_told tp mat stm m_kept him ki crs m_price m_offer m_gets m_yes m_buys m_ends m_carried m_row rm m_keptRow m_likeGets m_likePrice m_ahead, cI aC m_kept 100 kp, cI aC m_kind 9 kf, cI aC m_figure 9 ff, cI aC m_weight 9 wf, cI aC m_got 8 pf, cI aC m_setting 5 stf]) hP hD hS hA [0, 1, 2, 3, 4, 5, 6] (by decide) rfl
    have hPc := hpd9.1
    have hDc := hpd9.2.1
    have hFc := hpd9.2.2
    clear hpd9
    refine va_callv (va_runV (As := [Value.int 0, Value.int 0]) (rest := []) ⟨hx, hb, hml, hown, hts⟩ (c_X12_passesAll_l l dC dI aC H.size g0 m_refused m_kind m_figure m_weight m_got m_setting m_tape m_letter m_letterAt m_told m_kept m_price m_offer m_gets m_yes m_buys m_ends m_carried m_row m_keptRow m_likeGets m_likePrice m_ahead (nI n) (nI sn) dn tp mat stm him ki crs rm kp 0 kf ff wf pf stf (by omega)) ⟨(callB_of 2 hts (gG kw_850) rfl rfl rfl (hts _ (gw kw_13 rfl)) (hts _ (gw kw_847 rfl)) hd_X12_passesAll ⟨Nat.le_of_ble_eq_true rfl, Nat.le_of_ble_eq_true rfl⟩), (hts _ (gw kw_849 rfl)), (hts _ (gw ks_39 rfl))⟩ ⟨fb_std, va_recv (q := (RX12, TX12, 33)) hK hPc (ci := 12) (q0 := 0) rfl rfl, pre_std hPc hK hDc hN⟩ rfl rfl hl.1 rfl (lv_room (Nat.le_of_ble_eq_true rfl)) dX12_restore_17 ⟨Nat.le_of_ble_eq_true rfl, Nat.le_of_ble_eq_true rfl⟩) hS (fun q _ h => hFc q h) hFc (fun u9 t9 H1 locs ht hvm hw_2 hB hz1 hk1 hS => ?_)
    obtain ⟨u_3, u_4, u_5, u_6, u_7, u_8, u_9, u_10, u_11⟩ := u9
    obtain ⟨hP1, hK1, hD1⟩ := hB
    rw [ht] at hP1
    clear hK1
    try dsimp only at hw_2
    have hpd9 : PDx (dC, dI) classes A H1 [cI aC m_refused 7 mr, oX12 g0 m_refused m_kind m_figure m_weight m_got m_setting u_4 u_5 u_6 m_tape m_letter m_letterAt m_told tp mat stm m_kept him 0 u_3 m_price m_offer m_gets m_yes m_buys m_ends m_carried m_row rm m_keptRow m_likeGets m_likePrice m_ahead, cI aC m_kept 100 kp, cI aC m_kind 9 u_7, cI aC m_figure 9 u_8, cI aC m_weight 9 u_9, cI aC m_got 8 u_10, cI aC m_setting 5 u_11] := jn_N (wr := [cI aC m_refused 7 mr]) hFc hk1 hP1 hD1 hP hD [0, 1, 2, 3, 4, 5, 6] [7] rfl rfl (by decide) (by decide)
    have hP := hpd9.1
    have hD := hpd9.2
    clear hpd9
    generalize H1 = H at hP hS ⊢
    clear hPc hDc hFc hz1 hk1 hP1 hD1 ht hvm
    have hp1 := hw_2
    refine lv_aload_n hx hb dX12_restore_20 rfl (lv_at hl 0 rfl) ?_
    refine va_get (D := (dC, dI)) (ci := 12) (v := Value.int u_4) (C := RX12) (T := TX12) (N := 33) hx hb hts inX12 hown hK hP 1 rfl rfl 6 (by decide) (hts _ (gw kw_723 rfl)) (fun _ h9 => h9) rfl dX12_restore_21 ?_
    have hpd9 := pd_N (cx := [oX12 g0 m_refused m_kind m_figure m_weight m_got m_setting u_4 u_5 u_6 m_tape m_letter m_letterAt m_told tp mat stm m_kept him 0 u_3 m_price m_offer m_gets m_yes m_buys m_ends m_carried m_row rm m_keptRow m_likeGets m_likePrice m_ahead, cI aC m_kept 100 kp, cI aC m_kind 9 u_7, cI aC m_figure 9 u_8, cI aC m_weight 9 u_9, cI aC m_got 8 u_10, cI aC m_setting 5 u_11, cI aC m_refused 7 mr]) hP hD [1, 2, 3, 4, 5, 6, 7, 0] (by decide) rfl
    have hP9 := hpd9.1
    have hD9 := hpd9.2
    refine W.widen (k := 0) (n := 0) (by omega) (by omega) ?_
    exact W.iret (v := u_4) hx hb hr (fun t ht hW => ⟨⟨u_4, (u_3, 0, u_4, u_5, u_6, u_7, u_8, u_9, u_10, u_11, mr), rfl, ⟨fun q => absurd q c_1, fun _ => ⟨rfl, hp1⟩⟩, by rw [ht]; exact hP9, va_K.moved hW.alike hK, hD9⟩, hS.F ht⟩) hS.2.2 dX12_restore_24
  · refine lv_aload_n hx hb dX12_restore_7 rfl (lv_at hl 0 rfl) ?_
    refine lv_bipush (v := -3) hx hb dX12_restore_8 (by decide) ?_
    have hpd9 := pdf_N (cx := [oX12 g0 m_refused m_kind m_figure m_weight m_got m_setting (nI n) (nI sn) dn m_tape m_letter m_letterAt m_told tp mat stm m_kept him ki crs m_price m_offer m_gets m_yes m_buys m_ends m_carried m_row rm m_keptRow m_likeGets m_likePrice m_ahead, cI aC m_refused 7 mr]) hP hD hS hA [0, 7] (by decide) rfl
    have hPc := hpd9.1
    have hDc := hpd9.2.1
    have hFc := hpd9.2.2
    clear hpd9
    refine va_calli (va_runV (As := [Value.int (-3)]) (rest := []) ⟨hx, hb, hml, hown, hts⟩ (c_X12_no l dC dI aC H.size g0 m_refused m_kind m_figure m_weight m_got m_setting m_tape m_letter m_letterAt m_told m_kept m_price m_offer m_gets m_yes m_buys m_ends m_carried m_row m_keptRow m_likeGets m_likePrice m_ahead (nI n) (nI sn) dn tp mat stm him ki crs rm (-3) 3 mr (by decide) (by unfold vp_in; decide)) ⟨(callB_of 1 hts (gG kw_827) rfl rfl rfl (hts _ (gw kw_13 rfl)) (hts _ (gw kw_824 rfl)) hd_X12_no ⟨Nat.le_of_ble_eq_true rfl, Nat.le_of_ble_eq_true rfl⟩), (hts _ (gw kw_826 rfl)), (hts _ (gw ks_35 rfl))⟩ ⟨fb_std, va_recv (q := (RX12, TX12, 33)) hK hPc (ci := 12) (q0 := 0) rfl rfl, pre_std hPc hK hDc hN⟩ rfl rfl hl.1 rfl (lv_room (Nat.le_of_ble_eq_true rfl)) dX12_restore_10 ⟨Nat.le_of_ble_eq_true rfl, Nat.le_of_ble_eq_true rfl⟩) hS (fun q _ h => hFc q h) hFc (fun x_12 u9 t9 H1 locs ht hvm hw_12 hB hz1 hk1 hS => ?_)
    obtain ⟨u_13, rfl⟩ : ∃ z, z = u9 := ⟨_, rfl⟩
    obtain ⟨hP1, hK1, hD1⟩ := hB
    rw [ht] at hP1
    clear hK1
    try dsimp only at hw_12
    have hpd9 : PDx (dC, dI) classes A H1 [cI aC m_kept 100 kp, cI aC m_kind 9 kf, cI aC m_figure 9 ff, cI aC m_weight 9 wf, cI aC m_got 8 pf, cI aC m_setting 5 stf, oX12 g0 m_refused m_kind m_figure m_weight m_got m_setting (nI n) (nI sn) dn m_tape m_letter m_letterAt m_told tp mat stm m_kept him ki crs m_price m_offer m_gets m_yes m_buys m_ends m_carried m_row rm m_keptRow m_likeGets m_likePrice m_ahead, cI aC m_refused 7 u_13] := jn_N (wr := [cI aC m_kept 100 kp, cI aC m_kind 9 kf, cI aC m_figure 9 ff, cI aC m_weight 9 wf, cI aC m_got 8 pf, cI aC m_setting 5 stf]) hFc hk1 hP1 hD1 hP hD [0, 7] [1, 2, 3, 4, 5, 6] rfl rfl (by decide) (by decide)
    have hP := hpd9.1
    have hD := hpd9.2
    clear hpd9
    generalize H1 = H at hP hS ⊢
    clear hPc hDc hFc hz1 hk1 hP1 hD1 ht hvm
    obtain ⟨hv9, -⟩ := hw_12
    have hpd9 := pd_N (cx := [oX12 g0 m_refused m_kind m_figure m_weight m_got m_setting (nI n) (nI sn) dn m_tape m_letter m_letterAt m_told tp mat stm m_kept him ki crs m_price m_offer m_gets m_yes m_buys m_ends m_carried m_row rm m_keptRow m_likeGets m_likePrice m_ahead, cI aC m_kept 100 kp, cI aC m_kind 9 kf, cI aC m_figure 9 ff, cI aC m_weight 9 wf, cI aC m_got 8 pf, cI aC m_setting 5 stf, cI aC m_refused 7 u_13]) hP hD [6, 0, 1, 2, 3, 4, 5, 7] (by decide) rfl
    have hP9 := hpd9.1
    have hD9 := hpd9.2
    refine W.widen (k := 0) (n := 0) (by omega) (by omega) ?_
    exact W.iret (v := x_12) hx hb hr (fun t ht hW => ⟨⟨x_12, (crs, ki, (nI n), (nI sn), dn, kf, ff, wf, pf, stf, u_13), rfl, ⟨fun _ => ⟨hv9, rfl, rfl, rfl, rfl, rfl, rfl, rfl, rfl⟩, fun q => absurd c_1 q⟩, by rw [ht]; exact hP9, va_K.moved hW.alike hK, hD9⟩, hS.F ht⟩) hS.2.2 dX12_restore_13

set_option maxHeartbeats 1000000 in
set_option maxRecDepth 100000 in
/-- X12_man -/
theorem c_X12_man (l : Launch) (dC : Nat → ClassId) (dI : Nat → Nat → Nat) (aC : Nat → ClassId) (sz : Nat) (g0 : Nat) (m_refused : Nat) (m_kind : Nat) (m_figure : Nat) (m_weight : Nat) (m_got : Nat) (m_setting : Nat) (m_tape : Nat) (m_letter : Nat) (m_letterAt : Nat) (m_told : Nat) (m_kept : Nat) (m_price : Nat) (m_offer : Nat) (m_gets : Nat) (m_yes : Nat) (m_buys : Nat) (m_ends : Nat) (m_carried : Nat) (m_row : Nat) (m_keptRow : Nat) (m_likeGets : Nat) (m_likePrice : Nat) (m_ahead : Nat) (tp : Int32) (mat : Int32) (stm : Int32) (him : Int32) (ki : Int32) (crs : Int32) (rm : Int32) (n : Nat) (sn : Nat) (dn : Int32) (kf : Nat → Int32) (ff : Nat → Int32) (wf : Nat → Int32) (stf : Nat → Int32) (K : Nat → Nat) (F : Nat → Nat) (W0 : Nat → Nat) (S5 : Nat → Nat) (mr : Nat → Int32) (i : Int32) (w : Int32) (hev : EVS n sn dn K F W0 S5 kf ff wf stf) : Met l yX12_man (wW yX12_man cX12_man 3 (some .int)) ({ frames := 1, cells := 0, slots := 0, locals := 22 } : Room) (va_Pc [Value.ref g0, Value.int i, Value.int w] (fun U => U.heap.size = sz ∧ va_P (dC, dI) classes [oX12 g0 m_refused m_kind m_figure m_weight m_got m_setting (nI n) (nI sn) dn m_tape m_letter m_letterAt m_told tp mat stm m_kept him ki crs m_price m_offer m_gets m_yes m_buys m_ends m_carried m_row rm m_keptRow m_likeGets m_likePrice m_ahead, cI aC m_kind 9 kf, cI aC m_figure 9 ff, cI aC m_weight 9 wf, cI aC m_refused 7 mr] U.heap ∧ va_K (dC, dI) classes (TY aC) U ∧ va_D (fun _ => True) [oX12 g0 m_refused m_kind m_figure m_weight m_got m_setting (nI n) (nI sn) dn m_tape m_letter m_letterAt m_told tp mat stm m_kept him ki crs m_price m_offer m_gets m_yes m_buys m_ends m_carried m_row rm m_keptRow m_likeGets m_likePrice m_ahead, cI aC m_kind 9 kf, cI aC m_figure 9 ff, cI aC m_weight 9 wf, cI aC m_refused 7 mr] ∧ NX U)) (va_Qi (fun (r : Int32) (mr2 : Nat → Int32) => r = rMan n K F W0 i w) (fun (mr2 : Nat → Int32) (t : State) => va_P (dC, dI) classes [oX12 g0 m_refused m_kind m_figure m_weight m_got m_setting (nI n) (nI sn) dn m_tape m_letter m_letterAt m_told tp mat stm m_kept him ki crs m_price m_offer m_gets m_yes m_buys m_ends m_carried m_row rm m_keptRow m_likeGets m_likePrice m_ahead, cI aC m_kind 9 kf, cI aC m_figure 9 ff, cI aC m_weight 9 wf, cI aC m_refused 7 mr2] t.heap ∧ va_K (dC, dI) classes (TY aC) t ∧ va_D (va_A [oX12 g0 m_refused m_kind m_figure m_weight m_got m_setting (nI n) (nI sn) dn m_tape m_letter m_letterAt m_told tp mat stm m_kept him ki crs m_price m_offer m_gets m_yes m_buys m_ends m_carried m_row rm m_keptRow m_likeGets m_likePrice m_ahead, cI aC m_kind 9 kf, cI aC m_figure 9 ff, cI aC m_weight 9 wf, cI aC m_refused 7 mr] sz) [oX12 g0 m_refused m_kind m_figure m_weight m_got m_setting (nI n) (nI sn) dn m_tape m_letter m_letterAt m_told tp mat stm m_kept him ki crs m_price m_offer m_gets m_yes m_buys m_ends m_carried m_row rm m_keptRow m_likeGets m_likePrice m_ahead, cI aC m_kind 9 kf, cI aC m_figure 9 ff, cI aC m_weight 9 wf, cI aC m_refused 7 mr2]) (va_A [oX12 g0 m_refused m_kind m_figure m_weight m_got m_setting (nI n) (nI sn) dn m_tape m_letter m_letterAt m_told tp mat stm m_kept him ki crs m_price m_offer m_gets m_yes m_buys m_ends m_carried m_row rm m_keptRow m_likeGets m_likePrice m_ahead, cI aC m_kind 9 kf, cI aC m_figure 9 ff, cI aC m_weight 9 wf, cI aC m_refused 7 mr] sz)) 0 0 (va_A [oX12 g0 m_refused m_kind m_figure m_weight m_got m_setting (nI n) (nI sn) dn m_tape m_letter m_letterAt m_told tp mat stm m_kept him ki crs m_price m_offer m_gets m_yes m_buys m_ends m_carried m_row rm m_keptRow m_likeGets m_likePrice m_ahead, cI aC m_kind 9 kf, cI aC m_figure 9 ff, cI aC m_weight 9 wf, cI aC m_refused 7 mr] sz) := by
  refine Met.ofW (cc := cX12_man) (maxL := 3) (ret := (some .int)) (by decide) rfl ?_
  intro p e s m args below meth c s₁ B hml hv
  obtain ⟨rfl, hsz, hP, hK, hD0, hN⟩ := hv
  have hx := B.exec
  have hb := B.bytes
  have hr := B.returns
  have hts0 := atoms_spec (ws := (wW yX12_man cX12_man 3 (some .int))) B.pre
  have hts : ∀ w9 ∈ lw_G, w9.before ([Value.ref g0, Value.int i, Value.int w] : List Value).toArray s = true := fun w9 h9 => hts0 w9 (List.mem_cons_of_mem _ h9)
  have hown : s.vm.findClass RX12 = some m.cls := findClass_of_methodNamed (x := yX12_man) B.named
  have hlocks := B.notSynchronized
  subst hsz
  have hD := hD0.self (sz := s.heap.size)
  generalize hAe : va_A [oX12 g0 m_refused m_kind m_figure m_weight m_got m_setting (nI n) (nI sn) dn m_tape m_letter m_letterAt m_told tp mat stm m_kept him ki crs m_price m_offer m_gets m_yes m_buys m_ends m_carried m_row rm m_keptRow m_likeGets m_likePrice m_ahead, cI aC m_kind 9 kf, cI aC m_figure 9 ff, cI aC m_weight 9 wf, cI aC m_refused 7 mr] s.heap.size = A at hD ⊢
  have hA : ∀ q : Nat, s.heap.size ≤ q → A q := fun q h => by rw [← hAe]; exact Or.inr h
  obtain ⟨H, hHe⟩ : ∃ H : Heap, H = s.heap := ⟨_, rfl⟩
  have hS : va_S A s.heap H [] := by rw [hHe]; exact va_S.rf
  have hP : va_P (dC, dI) classes [oX12 g0 m_refused m_kind m_figure m_weight m_got m_setting (nI n) (nI sn) dn m_tape m_letter m_letterAt m_told tp mat stm m_kept him ki crs m_price m_offer m_gets m_yes m_buys m_ends m_carried m_row rm m_keptRow m_likeGets m_likePrice m_ahead, cI aC m_kind 9 kf, cI aC m_figure 9 ff, cI aC m_weight 9 wf, cI aC m_refused 7 mr] H := by rw [hHe]; exact hP
  have hl := lv_entry ([Value.ref g0, Value.int i, Value.int w]) (n := 3) (Nat.le_of_ble_eq_true rfl)
  rw [lg_entry_eq]
  generalize (lg_sl ([Value.ref g0, Value.int i, Value.int w]) ++ List.replicate (3 - (lg_sl ([Value.ref g0, Value.int i, Value.int w])).length) Slot.unset).toArray = ls at hl ⊢
  have hl : lv_has ls 3 [(0, Value.ref g0), (1, Value.int i), (2, Value.int w)] := hl
  rw [← hHe]
  have hn8 := EVS_n hev
  refine lv_aload_n hx hb dX12_man_0 rfl (lv_at hl 0 rfl) ?_
  refine lv_iload_n hx hb dX12_man_1 rfl (lv_at hl 1 rfl) ?_
  have hpd9 := pdf_N (cx := [oX12 g0 m_refused m_kind m_figure m_weight m_got m_setting (nI n) (nI sn) dn m_tape m_letter m_letterAt m_told tp mat stm m_kept him ki crs m_price m_offer m_gets m_yes m_buys m_ends m_carried m_row rm m_keptRow m_likeGets m_likePrice m_ahead]) hP hD hS hA [0] (by decide) rfl
  have hPc := hpd9.1
  have hDc := hpd9.2.1
  have hFc := hpd9.2.2
  clear hpd9
  refine va_calli (va_runV (As := [Value.int i]) (rest := []) ⟨hx, hb, hml, hown, hts⟩ (c_X12_isMan l dC dI aC H.size g0 m_refused m_kind m_figure m_weight m_got m_setting m_tape m_letter m_letterAt m_told m_kept m_price m_offer m_gets m_yes m_buys m_ends m_carried m_row m_keptRow m_likeGets m_likePrice m_ahead (nI n) (nI sn) dn tp mat stm him ki crs rm i ) ⟨(callB_of 1 hts (gG kw_878) rfl rfl rfl (hts _ (gw kw_13 rfl)) (hts _ (gw kw_875 rfl)) hd_X12_isMan ⟨Nat.le_of_ble_eq_true rfl, Nat.le_of_ble_eq_true rfl⟩), (hts _ (gw kw_877 rfl)), (hts _ (gw ks_43 rfl))⟩ ⟨fb_std, va_recv (q := (RX12, TX12, 33)) hK hPc (ci := 12) (q0 := 0) rfl rfl, pre_std hPc hK hDc hN⟩ rfl rfl hl.1 rfl (lv_room (Nat.le_of_ble_eq_true rfl)) dX12_man_2 ⟨Nat.le_of_ble_eq_true rfl, Nat.le_of_ble_eq_true rfl⟩) hS (fun q _ h => hFc q h) hFc (fun x_1 u9 t9 H1 locs ht hvm hw_1 hB hz1 hk1 hS => ?_)
  obtain ⟨hP1, hK1, hD1⟩ := hB
  rw [ht] at hP1
  clear hK1
  try dsimp only at hw_1
  have hpd9 : PDx (dC, dI) classes A H1 [cI aC m_kind 9 kf, cI aC m_figure 9 ff, cI aC m_weight 9 wf, cI aC m_refused 7 mr, oX12 g0 m_refused m_kind m_figure m_weight m_got m_setting (nI n) (nI sn) dn m_tape m_letter m_letterAt m_told tp mat stm m_kept him ki crs m_price m_offer m_gets m_yes m_buys m_ends m_carried m_row rm m_keptRow m_likeGets m_likePrice m_ahead] := jn_N (wr := [cI aC m_kind 9 kf, cI aC m_figure 9 ff, cI aC m_weight 9 wf, cI aC m_refused 7 mr]) hFc hk1 hP1 hD1 hP hD [0] [1, 2, 3, 4] rfl rfl (by decide) (by decide)
  have hP := hpd9.1
  have hD := hpd9.2
  clear hpd9
  generalize H1 = H at hP hS ⊢
  clear hPc hDc hFc hz1 hk1 hP1 hD1 ht hvm
  have hz_2 := hw_1
  refine lv_if_ne (tgt := 14) hx hb dX12_man_5 (by decide) (fun c_2 => ?_) (fun c_2 => ?_)
  · obtain ⟨a, ha8, ha9⟩ := OKI_ix hn8 (has_y hz_2 c_2)
    have h9 : i = nI a := ha9
    subst h9
    have he := hev.1.2.2.2 a ha8
    refine lv_iload_n hx hb dX12_man_14 rfl (lv_at hl 2 rfl) ?_
    refine lv_iconst (v := 0) hx hb dX12_man_15 (by decide) ?_
    refine lv_iconst (v := 2) hx hb dX12_man_16 (by decide) ?_
    have hpd9 := pdf_N (cx := []) hP hD hS hA [] (by decide) rfl
    have hPc := hpd9.1
    have hDc := hpd9.2.1
    have hFc := hpd9.2.2
    clear hpd9
    refine va_calli (va_runS (As := [Value.int w, Value.int 0, Value.int 2]) (rest := []) ⟨hx, hb, hml, hown, hts⟩ (c_X12_isIn l dC dI aC H.size w 0 2 ) ⟨(callB_of 3 hts (gG kw_846) rfl rfl rfl (hts _ (gw kw_13 rfl)) (hts _ (gw kw_844 rfl)) hd_X12_isIn ⟨Nat.le_of_ble_eq_true rfl, Nat.le_of_ble_eq_true rfl⟩), (hts _ (gw kw_845 rfl))⟩ ⟨fb_std, pre_std hPc hK hDc hN⟩ rfl rfl hl.1 rfl (lv_room (Nat.le_of_ble_eq_true rfl)) dX12_man_17 ⟨Nat.le_of_ble_eq_true rfl, Nat.le_of_ble_eq_true rfl⟩) hS (fun q _ h => hFc q h) hFc (fun x_3 u9 t9 H1 locs ht hvm hw_3 hB hz1 hk1 hS => ?_)
    obtain ⟨hP1, hK1, hD1⟩ := hB
    rw [ht] at hP1
    clear hK1
    try dsimp only at hw_3
    have hpd9 : PDx (dC, dI) classes A H1 [cI aC m_kind 9 kf, cI aC m_figure 9 ff, cI aC m_weight 9 wf, cI aC m_refused 7 mr, oX12 g0 m_refused m_kind m_figure m_weight m_got m_setting (nI n) (nI sn) dn m_tape m_letter m_letterAt m_told tp mat stm m_kept him ki crs m_price m_offer m_gets m_yes m_buys m_ends m_carried m_row rm m_keptRow m_likeGets m_likePrice m_ahead] := jn_N (wr := [cI aC m_kind 9 kf, cI aC m_figure 9 ff, cI aC m_weight 9 wf, cI aC m_refused 7 mr, oX12 g0 m_refused m_kind m_figure m_weight m_got m_setting (nI n) (nI sn) dn m_tape m_letter m_letterAt m_told tp mat stm m_kept him ki crs m_price m_offer m_gets m_yes m_buys m_ends m_carried m_row rm m_keptRow m_likeGets m_likePrice m_ahead]) hFc hk1 hP1 hD1 hP hD [] [0, 1, 2, 3, 4] rfl rfl (by decide) (by decide)
    have hP := hpd9.1
    have hD := hpd9.2
    clear hpd9
    generalize H1 = H at hP hS ⊢
    clear hPc hDc hFc hz1 hk1 hP1 hD1 ht hvm
    have hz_17 := hw_3
    refine lv_if_ne (tgt := 30) hx hb dX12_man_20 (by decide) (fun c_4 => ?_) (fun c_4 => ?_)
    · refine lv_iload_n hx hb dX12_man_30 rfl (lv_at hl 2 rfl) ?_
      refine lv_if_ne (tgt := 43) hx hb dX12_man_31 (by decide) (fun c_5 => ?_) (fun c_5 => ?_)
      · refine lv_iload_n hx hb dX12_man_43 rfl (lv_at hl 2 rfl) ?_
        refine lv_iconst (v := 1) hx hb dX12_man_44 (by decide) ?_
        refine lv_icmp_ne (tgt := 57) hx hb dX12_man_45 (by decide) (fun c_6 => ?_) (fun c_6 => ?_)
        · refine lv_aload_n hx hb dX12_man_57 rfl (lv_at hl 0 rfl) ?_
          refine va_get (D := (dC, dI)) (ci := 12) (v := Value.ref m_weight) (C := RX12) (T := TX12) (N := 33) hx hb hts inX12 hown hK hP 4 rfl rfl 3 (by decide) (hts _ (gw kw_720 rfl)) (fun _ h9 => h9) rfl dX12_man_58 ?_
          refine lv_iload_n hx hb dX12_man_61 rfl (lv_at hl 1 rfl) ?_
          have h_7 : vp_in (nI a) 9 := by first | exact vp_in_nI (by omega) (by omega) | (unfold vp_in; decide) | (subst_vars; first | (unfold vp_in; decide) | exact vp_in_nI (by omega) (by omega))
          refine va_iald hx hb hK hP 2 0 rfl rfl h_7 dX12_man_62 ?_
          refine lv_topi (fun x_8 e_8 => ?_)
          have hpd9 := pd_N (cx := [oX12 g0 m_refused m_kind m_figure m_weight m_got m_setting (nI n) (nI sn) dn m_tape m_letter m_letterAt m_told tp mat stm m_kept him ki crs m_price m_offer m_gets m_yes m_buys m_ends m_carried m_row rm m_keptRow m_likeGets m_likePrice m_ahead, cI aC m_kind 9 kf, cI aC m_figure 9 ff, cI aC m_weight 9 wf, cI aC m_refused 7 mr]) hP hD [4, 0, 1, 2, 3] (by decide) rfl
          have hP9 := hpd9.1
          have hD9 := hpd9.2
          refine W.widen (k := 0) (n := 0) (by omega) (by omega) ?_
          exact W.iret (v := x_8) hx hb hr (fun t ht hW => ⟨⟨x_8, (mr), rfl, by rw [e_8, nI_clamp (by omega)]; unfold rMan; rw [if_pos (OKI_nI hn8 ha8), if_neg c_5, if_neg c_6, if_pos (w3 (isin_y hz_17 c_4).1 (isin_y hz_17 c_4).2 c_5 c_6), nI_clamp (by omega)]; exact he.2.2.1, by rw [ht]; exact hP9, va_K.moved hW.alike hK, hD9⟩, hS.F ht⟩) hS.2.2 dX12_man_63
        · refine lv_aload_n hx hb dX12_man_48 rfl (lv_at hl 0 rfl) ?_
          refine va_get (D := (dC, dI)) (ci := 12) (v := Value.ref m_figure) (C := RX12) (T := TX12) (N := 33) hx hb hts inX12 hown hK hP 4 rfl rfl 2 (by decide) (hts _ (gw kw_719 rfl)) (fun _ h9 => h9) rfl dX12_man_49 ?_
          refine lv_iload_n hx hb dX12_man_52 rfl (lv_at hl 1 rfl) ?_
          have h_9 : vp_in (nI a) 9 := by first | exact vp_in_nI (by omega) (by omega) | (unfold vp_in; decide) | (subst_vars; first | (unfold vp_in; decide) | exact vp_in_nI (by omega) (by omega))
          refine va_iald hx hb hK hP 1 0 rfl rfl h_9 dX12_man_53 ?_
          refine lv_topi (fun x_10 e_10 => ?_)
          refine lv_goto (tgt := 63) hx hb dX12_man_54 (by decide) ?_
          have hpd9 := pd_N (cx := [oX12 g0 m_refused m_kind m_figure m_weight m_got m_setting (nI n) (nI sn) dn m_tape m_letter m_letterAt m_told tp mat stm m_kept him ki crs m_price m_offer m_gets m_yes m_buys m_ends m_carried m_row rm m_keptRow m_likeGets m_likePrice m_ahead, cI aC m_kind 9 kf, cI aC m_figure 9 ff, cI aC m_weight 9 wf, cI aC m_refused 7 mr]) hP hD [4, 0, 1, 2, 3] (by decide) rfl
          have hP9 := hpd9.1
          have hD9 := hpd9.2
          refine W.widen (k := 0) (n := 0) (by omega) (by omega) ?_
          exact W.iret (v := x_10) hx hb hr (fun t ht hW => ⟨⟨x_10, (mr), rfl, by rw [e_10, nI_clamp (by omega)]; unfold rMan; rw [if_pos (OKI_nI hn8 ha8), if_neg c_5, if_pos c_6, nI_clamp (by omega)]; exact he.2.1.1, by rw [ht]; exact hP9, va_K.moved hW.alike hK, hD9⟩, hS.F ht⟩) hS.2.2 dX12_man_63
      · refine lv_aload_n hx hb dX12_man_34 rfl (lv_at hl 0 rfl) ?_
        refine va_get (D := (dC, dI)) (ci := 12) (v := Value.ref m_kind) (C := RX12) (T := TX12) (N := 33) hx hb hts inX12 hown hK hP 4 rfl rfl 1 (by decide) (hts _ (gw kw_718 rfl)) (fun _ h9 => h9) rfl dX12_man_35 ?_
        refine lv_iload_n hx hb dX12_man_38 rfl (lv_at hl 1 rfl) ?_
        have h_11 : vp_in (nI a) 9 := by first | exact vp_in_nI (by omega) (by omega) | (unfold vp_in; decide) | (subst_vars; first | (unfold vp_in; decide) | exact vp_in_nI (by omega) (by omega))
        refine va_iald hx hb hK hP 0 0 rfl rfl h_11 dX12_man_39 ?_
        refine lv_topi (fun x_12 e_12 => ?_)
        refine lv_goto (tgt := 63) hx hb dX12_man_40 (by decide) ?_
        have hpd9 := pd_N (cx := [oX12 g0 m_refused m_kind m_figure m_weight m_got m_setting (nI n) (nI sn) dn m_tape m_letter m_letterAt m_told tp mat stm m_kept him ki crs m_price m_offer m_gets m_yes m_buys m_ends m_carried m_row rm m_keptRow m_likeGets m_likePrice m_ahead, cI aC m_kind 9 kf, cI aC m_figure 9 ff, cI aC m_weight 9 wf, cI aC m_refused 7 mr]) hP hD [4, 0, 1, 2, 3] (by decide) rfl
        have hP9 := hpd9.1
        have hD9 := hpd9.2
        refine W.widen (k := 0) (n := 0) (by omega) (by omega) ?_
        exact W.iret (v := x_12) hx hb hr (fun t ht hW => ⟨⟨x_12, (mr), rfl, by rw [e_12, nI_clamp (by omega)]; unfold rMan; rw [if_pos (OKI_nI hn8 ha8), if_pos c_5, nI_clamp (by omega)]; exact he.1.1, by rw [ht]; exact hP9, va_K.moved hW.alike hK, hD9⟩, hS.F ht⟩) hS.2.2 dX12_man_63
    · refine lv_aload_n hx hb dX12_man_23 rfl (lv_at hl 0 rfl) ?_
      refine lv_bipush (v := -2) hx hb dX12_man_24 (by decide) ?_
      have hpd9 := pdf_N (cx := [oX12 g0 m_refused m_kind m_figure m_weight m_got m_setting (nI n) (nI sn) dn m_tape m_letter m_letterAt m_told tp mat stm m_kept him ki crs m_price m_offer m_gets m_yes m_buys m_ends m_carried m_row rm m_keptRow m_likeGets m_likePrice m_ahead, cI aC m_refused 7 mr]) hP hD hS hA [4, 3] (by decide) rfl
      have hPc := hpd9.1
      have hDc := hpd9.2.1
      have hFc := hpd9.2.2
      clear hpd9
      refine va_calli (va_runV (As := [Value.int (-2)]) (rest := []) ⟨hx, hb, hml, hown, hts⟩ (c_X12_no l dC dI aC H.size g0 m_refused m_kind m_figure m_weight m_got m_setting m_tape m_letter m_letterAt m_told m_kept m_price m_offer m_gets m_yes m_buys m_ends m_carried m_row m_keptRow m_likeGets m_likePrice m_ahead (nI n) (nI sn) dn tp mat stm him ki crs rm (-2) 2 mr (by decide) (by unfold vp_in; decide)) ⟨(callB_of 1 hts (gG kw_827) rfl rfl rfl (hts _ (gw kw_13 rfl)) (hts _ (gw kw_824 rfl)) hd_X12_no ⟨Nat.le_of_ble_eq_true rfl, Nat.le_of_ble_eq_true rfl⟩), (hts _ (gw kw_826 rfl)), (hts _ (gw ks_35 rfl))⟩ ⟨fb_std, va_recv (q := (RX12, TX12, 33)) hK hPc (ci := 12) (q0 := 0) rfl rfl, pre_std hPc hK hDc hN⟩ rfl rfl hl.1 rfl (lv_room (Nat.le_of_ble_eq_true rfl)) dX12_man_26 ⟨Nat.le_of_ble_eq_true rfl, Nat.le_of_ble_eq_true rfl⟩) hS (fun q _ h => hFc q h) hFc (fun x_13 u9 t9 H1 locs ht hvm hw_13 hB hz1 hk1 hS => ?_)
      obtain ⟨u_14, rfl⟩ : ∃ z, z = u9 := ⟨_, rfl⟩
      obtain ⟨hP1, hK1, hD1⟩ := hB
      rw [ht] at hP1
      clear hK1
      try dsimp only at hw_13
      have hpd9 : PDx (dC, dI) classes A H1 [cI aC m_kind 9 kf, cI aC m_figure 9 ff, cI aC m_weight 9 wf, oX12 g0 m_refused m_kind m_figure m_weight m_got m_setting (nI n) (nI sn) dn m_tape m_letter m_letterAt m_told tp mat stm m_kept him ki crs m_price m_offer m_gets m_yes m_buys m_ends m_carried m_row rm m_keptRow m_likeGets m_likePrice m_ahead, cI aC m_refused 7 u_14] := jn_N (wr := [cI aC m_kind 9 kf, cI aC m_figure 9 ff, cI aC m_weight 9 wf]) hFc hk1 hP1 hD1 hP hD [4, 3] [0, 1, 2] rfl rfl (by decide) (by decide)
      have hP := hpd9.1
      have hD := hpd9.2
      clear hpd9
      generalize H1 = H at hP hS ⊢
      clear hPc hDc hFc hz1 hk1 hP1 hD1 ht hvm
      obtain ⟨hv9, -⟩ := hw_13
      have hpd9 := pd_N (cx := [oX12 g0 m_refused m_kind m_figure m_weight m_got m_setting (nI n) (nI sn) dn m_tape m_letter m_letterAt m_told tp mat stm m_kept him ki crs m_price m_offer m_gets m_yes m_buys m_ends m_carried m_row rm m_keptRow m_likeGets m_likePrice m_ahead, cI aC m_kind 9 kf, cI aC m_figure 9 ff, cI aC m_weight 9 wf, cI aC m_refused 7 u_14]) hP hD [3, 0, 1, 2, 4] (by decide) rfl
      have hP9 := hpd9.1
      have hD9 := hpd9.2
      refine W.widen (k := 0) (n := 0) (by omega) (by omega) ?_
      exact W.iret (v := x_13) hx hb hr (fun t ht hW => ⟨⟨x_13, (u_14), rfl, by rw [hv9]; unfold rMan; rw [if_pos (OKI_nI hn8 ha8)]; rcases isin_n hz_17 c_4 with q | q <;> rw [if_neg (by rintro rfl; exact absurd q (by decide)), if_neg (by rintro rfl; exact absurd q (by decide)), if_neg (by rintro rfl; exact absurd q (by decide))], by rw [ht]; exact hP9, va_K.moved hW.alike hK, hD9⟩, hS.F ht⟩) hS.2.2 dX12_man_29
  · refine lv_aload_n hx hb dX12_man_8 rfl (lv_at hl 0 rfl) ?_
    refine lv_iconst (v := -1) hx hb dX12_man_9 (by decide) ?_
    have hpd9 := pdf_N (cx := [oX12 g0 m_refused m_kind m_figure m_weight m_got m_setting (nI n) (nI sn) dn m_tape m_letter m_letterAt m_told tp mat stm m_kept him ki crs m_price m_offer m_gets m_yes m_buys m_ends m_carried m_row rm m_keptRow m_likeGets m_likePrice m_ahead, cI aC m_refused 7 mr]) hP hD hS hA [4, 3] (by decide) rfl
    have hPc := hpd9.1
    have hDc := hpd9.2.1
    have hFc := hpd9.2.2
    clear hpd9
    refine va_calli (va_runV (As := [Value.int (-1)]) (rest := []) ⟨hx, hb, hml, hown, hts⟩ (c_X12_no l dC dI aC H.size g0 m_refused m_kind m_figure m_weight m_got m_setting m_tape m_letter m_letterAt m_told m_kept m_price m_offer m_gets m_yes m_buys m_ends m_carried m_row m_keptRow m_likeGets m_likePrice m_ahead (nI n) (nI sn) dn tp mat stm him ki crs rm (-1) 1 mr (by decide) (by unfold vp_in; decide)) ⟨(callB_of 1 hts (gG kw_827) rfl rfl rfl (hts _ (gw kw_13 rfl)) (hts _ (gw kw_824 rfl)) hd_X12_no ⟨Nat.le_of_ble_eq_true rfl, Nat.le_of_ble_eq_true rfl⟩), (hts _ (gw kw_826 rfl)), (hts _ (gw ks_35 rfl))⟩ ⟨fb_std, va_recv (q := (RX12, TX12, 33)) hK hPc (ci := 12) (q0 := 0) rfl rfl, pre_std hPc hK hDc hN⟩ rfl rfl hl.1 rfl (lv_room (Nat.le_of_ble_eq_true rfl)) dX12_man_10 ⟨Nat.le_of_ble_eq_true rfl, Nat.le_of_ble_eq_true rfl⟩) hS (fun q _ h => hFc q h) hFc (fun x_15 u9 t9 H1 locs ht hvm hw_15 hB hz1 hk1 hS => ?_)
    obtain ⟨u_16, rfl⟩ : ∃ z, z = u9 := ⟨_, rfl⟩
    obtain ⟨hP1, hK1, hD1⟩ := hB
    rw [ht] at hP1
    clear hK1
    try dsimp only at hw_15
    have hpd9 : PDx (dC, dI) classes A H1 [cI aC m_kind 9 kf, cI aC m_figure 9 ff, cI aC m_weight 9 wf, oX12 g0 m_refused m_kind m_figure m_weight m_got m_setting (nI n) (nI sn) dn m_tape m_letter m_letterAt m_told tp mat stm m_kept him ki crs m_price m_offer m_gets m_yes m_buys m_ends m_carried m_row rm m_keptRow m_likeGets m_likePrice m_ahead, cI aC m_refused 7 u_16] := jn_N (wr := [cI aC m_kind 9 kf, cI aC m_figure 9 ff, cI aC m_weight 9 wf]) hFc hk1 hP1 hD1 hP hD [4, 3] [0, 1, 2] rfl rfl (by decide) (by decide)
    have hP := hpd9.1
    have hD := hpd9.2
    clear hpd9
    generalize H1 = H at hP hS ⊢
    clear hPc hDc hFc hz1 hk1 hP1 hD1 ht hvm
    obtain ⟨hv9, -⟩ := hw_15
    have hpd9 := pd_N (cx := [oX12 g0 m_refused m_kind m_figure m_weight m_got m_setting (nI n) (nI sn) dn m_tape m_letter m_letterAt m_told tp mat stm m_kept him ki crs m_price m_offer m_gets m_yes m_buys m_ends m_carried m_row rm m_keptRow m_likeGets m_likePrice m_ahead, cI aC m_kind 9 kf, cI aC m_figure 9 ff, cI aC m_weight 9 wf, cI aC m_refused 7 u_16]) hP hD [3, 0, 1, 2, 4] (by decide) rfl
    have hP9 := hpd9.1
    have hD9 := hpd9.2
    refine W.widen (k := 0) (n := 0) (by omega) (by omega) ?_
    exact W.iret (v := x_15) hx hb hr (fun t ht hW => ⟨⟨x_15, (u_16), rfl, by rw [hv9]; unfold rMan; rw [if_neg (has_n hz_2 c_2)], by rw [ht]; exact hP9, va_K.moved hW.alike hK, hD9⟩, hS.F ht⟩) hS.2.2 dX12_man_13

set_option maxHeartbeats 1000000 in
set_option maxRecDepth 100000 in
/-- X12_set -/
theorem c_X12_set (l : Launch) (dC : Nat → ClassId) (dI : Nat → Nat → Nat) (aC : Nat → ClassId) (sz : Nat) (g0 : Nat) (m_refused : Nat) (m_kind : Nat) (m_figure : Nat) (m_weight : Nat) (m_got : Nat) (m_setting : Nat) (m_tape : Nat) (m_letter : Nat) (m_letterAt : Nat) (m_told : Nat) (m_kept : Nat) (m_price : Nat) (m_offer : Nat) (m_gets : Nat) (m_yes : Nat) (m_buys : Nat) (m_ends : Nat) (m_carried : Nat) (m_row : Nat) (m_keptRow : Nat) (m_likeGets : Nat) (m_likePrice : Nat) (m_ahead : Nat) (tp : Int32) (mat : Int32) (stm : Int32) (him : Int32) (ki : Int32) (crs : Int32) (rm : Int32) (n : Nat) (sn : Nat) (dn : Int32) (kf : Nat → Int32) (ff : Nat → Int32) (wf : Nat → Int32) (stf : Nat → Int32) (K : Nat → Nat) (F : Nat → Nat) (W0 : Nat → Nat) (S5 : Nat → Nat) (mr : Nat → Int32) (a1 : Int32) (a2 : Int32) (tM : Nat) (hev : EVS n sn dn K F W0 S5 kf ff wf stf) : Met l yX12_set (wW yX12_set cX12_set 5 (some .int)) ({ frames := 1, cells := 0, slots := 0, locals := 22 } : Room) (va_Pc [Value.ref g0, Value.int a1, Value.int a2] (fun U => U.heap.size = sz ∧ va_P (dC, dI) classes [oX12 g0 m_refused m_kind m_figure m_weight m_got m_setting (nI n) (nI sn) dn m_tape m_letter m_letterAt m_told tp mat stm m_kept him ki crs m_price m_offer m_gets m_yes m_buys m_ends m_carried m_row rm m_keptRow m_likeGets m_likePrice m_ahead, cI aC m_setting 5 stf, cI aC m_refused 7 mr] U.heap ∧ va_K (dC, dI) classes (TY aC) U ∧ va_D (fun _ => True) [oX12 g0 m_refused m_kind m_figure m_weight m_got m_setting (nI n) (nI sn) dn m_tape m_letter m_letterAt m_told tp mat stm m_kept him ki crs m_price m_offer m_gets m_yes m_buys m_ends m_carried m_row rm m_keptRow m_likeGets m_likePrice m_ahead, cI aC m_setting 5 stf, cI aC m_refused 7 mr] ∧ NX U ∧ va_Z "EldestSaysModel" "MOST_SET" "[I" (.ref tM) (va_A [oX12 g0 m_refused m_kind m_figure m_weight m_got m_setting (nI n) (nI sn) dn m_tape m_letter m_letterAt m_told tp mat stm m_kept him ki crs m_price m_offer m_gets m_yes m_buys m_ends m_carried m_row rm m_keptRow m_likeGets m_likePrice m_ahead, cI aC m_setting 5 stf, cI aC m_refused 7 mr] sz) U U.heap ∧ va_T .int tM 5 (fun j => .int (GV j)) (va_A [oX12 g0 m_refused m_kind m_figure m_weight m_got m_setting (nI n) (nI sn) dn m_tape m_letter m_letterAt m_told tp mat stm m_kept him ki crs m_price m_offer m_gets m_yes m_buys m_ends m_carried m_row rm m_keptRow m_likeGets m_likePrice m_ahead, cI aC m_setting 5 stf, cI aC m_refused 7 mr] sz) U U.heap)) (va_Qi (fun (r : Int32) (u : (Nat → Int32) × (Nat → Int32)) => match u with | (sg2, mr2) => r = setR S5 a1 a2 ∧ (¬ SOK a1 a2 → sg2 = stf) ∧ EVS n sn dn K F W0 (setS S5 a1 a2) kf ff wf sg2) (fun (u : (Nat → Int32) × (Nat → Int32)) (t : State) => match u with | (sg2, mr2) => va_P (dC, dI) classes [oX12 g0 m_refused m_kind m_figure m_weight m_got m_setting (nI n) (nI sn) dn m_tape m_letter m_letterAt m_told tp mat stm m_kept him ki crs m_price m_offer m_gets m_yes m_buys m_ends m_carried m_row rm m_keptRow m_likeGets m_likePrice m_ahead, cI aC m_setting 5 sg2, cI aC m_refused 7 mr2] t.heap ∧ va_K (dC, dI) classes (TY aC) t ∧ va_D (va_A [oX12 g0 m_refused m_kind m_figure m_weight m_got m_setting (nI n) (nI sn) dn m_tape m_letter m_letterAt m_told tp mat stm m_kept him ki crs m_price m_offer m_gets m_yes m_buys m_ends m_carried m_row rm m_keptRow m_likeGets m_likePrice m_ahead, cI aC m_setting 5 stf, cI aC m_refused 7 mr] sz) [oX12 g0 m_refused m_kind m_figure m_weight m_got m_setting (nI n) (nI sn) dn m_tape m_letter m_letterAt m_told tp mat stm m_kept him ki crs m_price m_offer m_gets m_yes m_buys m_ends m_carried m_row rm m_keptRow m_likeGets m_likePrice m_ahead, cI aC m_setting 5 sg2, cI aC m_refused 7 mr2]) (va_A [oX12 g0 m_refused m_kind m_figure m_weight m_got m_setting (nI n) (nI sn) dn m_tape m_letter m_letterAt m_told tp mat stm m_kept him ki crs m_price m_offer m_gets m_yes m_buys m_ends m_carried m_row rm m_keptRow m_likeGets m_likePrice m_ahead, cI aC m_setting 5 stf, cI aC m_refused 7 mr] sz)) 0 0 (va_A [oX12 g0 m_refused m_kind m_figure m_weight m_got m_setting (nI n) (nI sn) dn m_tape m_letter m_letterAt m_told tp mat stm m_kept him ki crs m_price m_offer m_gets m_yes m_buys m_ends m_carried m_row rm m_keptRow m_likeGets m_likePrice m_ahead, cI aC m_setting 5 stf, cI aC m_refused 7 mr] sz) := by
  refine Met.ofW (cc := cX12_set) (maxL := 5) (ret := (some .int)) (by decide) rfl ?_
  intro p e s m args below meth c s₁ B hml hv
  obtain ⟨rfl, hsz, hP, hK, hD0, hN, hZM, hTM⟩ := hv
  have hx := B.exec
  have hb := B.bytes
  have hr := B.returns
  have hts0 := atoms_spec (ws := (wW yX12_set cX12_set 5 (some .int))) B.pre
  have hts : ∀ w9 ∈ lw_G, w9.before ([Value.ref g0, Value.int a1, Value.int a2] : List Value).toArray s = true := fun w9 h9 => hts0 w9 (List.mem_cons_of_mem _ h9)
  have hown : s.vm.findClass RX12 = some m.cls := findClass_of_methodNamed (x := yX12_set) B.named
  have hlocks := B.notSynchronized
  subst hsz
  have hD := hD0.self (sz := s.heap.size)
  generalize hAe : va_A [oX12 g0 m_refused m_kind m_figure m_weight m_got m_setting (nI n) (nI sn) dn m_tape m_letter m_letterAt m_told tp mat stm m_kept him ki crs m_price m_offer m_gets m_yes m_buys m_ends m_carried m_row rm m_keptRow m_likeGets m_likePrice m_ahead, cI aC m_setting 5 stf, cI aC m_refused 7 mr] s.heap.size = A at hZM hTM hD ⊢
  have hA : ∀ q : Nat, s.heap.size ≤ q → A q := fun q h => by rw [← hAe]; exact Or.inr h
  obtain ⟨H, hHe⟩ : ∃ H : Heap, H = s.heap := ⟨_, rfl⟩
  have hS : va_S A s.heap H [] := by rw [hHe]; exact va_S.rf
  have hP : va_P (dC, dI) classes [oX12 g0 m_refused m_kind m_figure m_weight m_got m_setting (nI n) (nI sn) dn m_tape m_letter m_letterAt m_told tp mat stm m_kept him ki crs m_price m_offer m_gets m_yes m_buys m_ends m_carried m_row rm m_keptRow m_likeGets m_likePrice m_ahead, cI aC m_setting 5 stf, cI aC m_refused 7 mr] H := by rw [hHe]; exact hP
  have hl := lv_entry ([Value.ref g0, Value.int a1, Value.int a2]) (n := 5) (Nat.le_of_ble_eq_true rfl)
  rw [lg_entry_eq]
  generalize (lg_sl ([Value.ref g0, Value.int a1, Value.int a2]) ++ List.replicate (5 - (lg_sl ([Value.ref g0, Value.int a1, Value.int a2])).length) Slot.unset).toArray = ls at hl ⊢
  have hl : lv_has ls 5 [(0, Value.ref g0), (1, Value.int a1), (2, Value.int a2)] := hl
  rw [← hHe]
  refine lv_iload_n hx hb dX12_set_0 rfl (lv_at hl 1 rfl) ?_
  refine lv_iconst (v := 0) hx hb dX12_set_1 (by decide) ?_
  refine lv_iconst (v := 4) hx hb dX12_set_2 (by decide) ?_
  have hpd9 := pdf_N (cx := []) hP hD hS hA [] (by decide) rfl
  have hPc := hpd9.1
  have hDc := hpd9.2.1
  have hFc := hpd9.2.2
  clear hpd9
  refine va_calli (va_runS (As := [Value.int a1, Value.int 0, Value.int 4]) (rest := []) ⟨hx, hb, hml, hown, hts⟩ (c_X12_isIn l dC dI aC H.size a1 0 4 ) ⟨(callB_of 3 hts (gG kw_846) rfl rfl rfl (hts _ (gw kw_13 rfl)) (hts _ (gw kw_844 rfl)) hd_X12_isIn ⟨Nat.le_of_ble_eq_true rfl, Nat.le_of_ble_eq_true rfl⟩), (hts _ (gw kw_845 rfl))⟩ ⟨fb_std, pre_std hPc hK hDc hN⟩ rfl rfl hl.1 rfl (lv_room (Nat.le_of_ble_eq_true rfl)) dX12_set_3 ⟨Nat.le_of_ble_eq_true rfl, Nat.le_of_ble_eq_true rfl⟩) hS (fun q _ h => hFc q h) hFc (fun x_1 u9 t9 H1 locs ht hvm hw_1 hB hz1 hk1 hS => ?_)
  obtain ⟨hP1, hK1, hD1⟩ := hB
  rw [ht] at hP1
  clear hK1
  try dsimp only at hw_1
  have hpd9 : PDx (dC, dI) classes A H1 [oX12 g0 m_refused m_kind m_figure m_weight m_got m_setting (nI n) (nI sn) dn m_tape m_letter m_letterAt m_told tp mat stm m_kept him ki crs m_price m_offer m_gets m_yes m_buys m_ends m_carried m_row rm m_keptRow m_likeGets m_likePrice m_ahead, cI aC m_setting 5 stf, cI aC m_refused 7 mr] := jn_N (wr := [oX12 g0 m_refused m_kind m_figure m_weight m_got m_setting (nI n) (nI sn) dn m_tape m_letter m_letterAt m_told tp mat stm m_kept him ki crs m_price m_offer m_gets m_yes m_buys m_ends m_carried m_row rm m_keptRow m_likeGets m_likePrice m_ahead, cI aC m_setting 5 stf, cI aC m_refused 7 mr]) hFc hk1 hP1 hD1 hP hD [] [0, 1, 2] rfl rfl (by decide) (by decide)
  have hP := hpd9.1
  have hD := hpd9.2
  clear hpd9
  generalize H1 = H at hP hS ⊢
  clear hPc hDc hFc hz1 hk1 hP1 hD1 ht hvm
  have hz_3 := hw_1
  refine lv_if_ne (tgt := 16) hx hb dX12_set_6 (by decide) (fun c_2 => ?_) (fun c_2 => ?_)
  · refine lv_iload_n hx hb dX12_set_16 rfl (lv_at hl 2 rfl) ?_
    refine lv_iconst (v := 0) hx hb dX12_set_17 (by decide) ?_
    refine va_gets (v := .ref tM) hx hb hZM hS hown (hts _ (gw kw_883 rfl)) (fun _ h9 => h9) dX12_set_18 ?_
    refine lv_iload_n hx hb dX12_set_21 rfl (lv_at hl 1 rfl) ?_
    have h_3 : vp_in a1 5 := vin (n := 5) (isin_y hz_3 c_2).1 (w5 (isin_y hz_3 c_2).2) rfl
    refine va_ti hx hb hTM hS h_3 rfl dX12_set_22 ?_
    refine lv_topi (fun x_4 e_4 => ?_)
    have hpd9 := pdf_N (cx := []) hP hD hS hA [] (by decide) rfl
    have hPc := hpd9.1
    have hDc := hpd9.2.1
    have hFc := hpd9.2.2
    clear hpd9
    refine va_calli (va_runS (As := [Value.int a2, Value.int 0, Value.int x_4]) (rest := []) ⟨hx, hb, hml, hown, hts⟩ (c_X12_bound l dC dI aC H.size a2 0 x_4 ) ⟨(callB_of 3 hts (gG kw_823) rfl rfl rfl (hts _ (gw kw_13 rfl)) (hts _ (gw kw_821 rfl)) hd_X12_bound ⟨Nat.le_of_ble_eq_true rfl, Nat.le_of_ble_eq_true rfl⟩), (hts _ (gw kw_822 rfl))⟩ ⟨fb_std, pre_std hPc hK hDc hN⟩ rfl rfl hl.1 rfl (lv_room (Nat.le_of_ble_eq_true rfl)) dX12_set_23 ⟨Nat.le_of_ble_eq_true rfl, Nat.le_of_ble_eq_true rfl⟩) hS (fun q _ h => hFc q h) hFc (fun x_5 u9 t9 H1 locs ht hvm hw_5 hB hz1 hk1 hS => ?_)
    obtain ⟨hP1, hK1, hD1⟩ := hB
    rw [ht] at hP1
    clear hK1
    try dsimp only at hw_5
    have hpd9 : PDx (dC, dI) classes A H1 [oX12 g0 m_refused m_kind m_figure m_weight m_got m_setting (nI n) (nI sn) dn m_tape m_letter m_letterAt m_told tp mat stm m_kept him ki crs m_price m_offer m_gets m_yes m_buys m_ends m_carried m_row rm m_keptRow m_likeGets m_likePrice m_ahead, cI aC m_setting 5 stf, cI aC m_refused 7 mr] := jn_N (wr := [oX12 g0 m_refused m_kind m_figure m_weight m_got m_setting (nI n) (nI sn) dn m_tape m_letter m_letterAt m_told tp mat stm m_kept him ki crs m_price m_offer m_gets m_yes m_buys m_ends m_carried m_row rm m_keptRow m_likeGets m_likePrice m_ahead, cI aC m_setting 5 stf, cI aC m_refused 7 mr]) hFc hk1 hP1 hD1 hP hD [] [0, 1, 2] rfl rfl (by decide) (by decide)
    have hP := hpd9.1
    have hD := hpd9.2
    clear hpd9
    generalize H1 = H at hP hS ⊢
    clear hPc hDc hFc hz1 hk1 hP1 hD1 ht hvm
    have hz_23 := hw_5
    refine lv_istore_n (lv' := [(3, Value.int x_5), (0, Value.ref g0), (1, Value.int a1), (2, Value.int a2)]) hx hb dX12_set_26 rfl hl (by decide) rfl (fun ls hl => ?_)
    refine lv_iload_n hx hb dX12_set_27 rfl (lv_at hl 0 rfl) ?_
    refine lv_if_eq (tgt := 37) hx hb dX12_set_28 (by decide) (fun c_6 => ?_) (fun c_6 => ?_)
    · refine lv_aload_n hx hb dX12_set_37 rfl (lv_at hl 1 rfl) ?_
      refine va_get (D := (dC, dI)) (ci := 12) (v := Value.ref m_setting) (C := RX12) (T := TX12) (N := 33) hx hb hts inX12 hown hK hP 0 rfl rfl 5 (by decide) (hts _ (gw kw_722 rfl)) (fun _ h9 => h9) rfl dX12_set_38 ?_
      refine lv_iload_n hx hb dX12_set_41 rfl (lv_at hl 2 rfl) ?_
      have h_7 : vp_in a1 5 := vin (n := 5) (isin_y hz_3 c_2).1 (w5 (isin_y hz_3 c_2).2) rfl
      refine va_iald hx hb hK hP 1 0 rfl rfl h_7 dX12_set_42 ?_
      refine lv_topi (fun x_8 e_8 => ?_)
      refine lv_istore (lv' := [(4, Value.int x_8), (3, Value.int x_5), (0, Value.ref g0), (1, Value.int a1), (2, Value.int a2)]) hx hb dX12_set_43 hl (by decide) rfl (fun ls hl => ?_)
      refine lv_aload_n hx hb dX12_set_45 rfl (lv_at hl 2 rfl) ?_
      refine va_get (D := (dC, dI)) (ci := 12) (v := Value.ref m_setting) (C := RX12) (T := TX12) (N := 33) hx hb hts inX12 hown hK hP 0 rfl rfl 5 (by decide) (hts _ (gw kw_722 rfl)) (fun _ h9 => h9) rfl dX12_set_46 ?_
      refine lv_iload_n hx hb dX12_set_49 rfl (lv_at hl 3 rfl) ?_
      refine lv_iload_n hx hb dX12_set_50 rfl (lv_at hl 4 rfl) ?_
      have h_9 : vp_in a1 5 := vin (n := 5) (isin_y hz_3 c_2).1 (w5 (isin_y hz_3 c_2).2) rfl
      refine va_iast hx hb hK hP hD hS 1 0 rfl rfl h_9 dX12_set_51 (fun H locs hP hD hS => ?_)
      obtain ⟨f_10, e_f_10⟩ : ∃ y : Nat → Int32, y = upd stf (a1 : Int32).toNatClampNeg a2 := ⟨_, rfl⟩
      have hpd9 : PDx (dC, dI) classes A H [oX12 g0 m_refused m_kind m_figure m_weight m_got m_setting (nI n) (nI sn) dn m_tape m_letter m_letterAt m_told tp mat stm m_kept him ki crs m_price m_offer m_gets m_yes m_buys m_ends m_carried m_row rm m_keptRow m_likeGets m_likePrice m_ahead, cI aC m_setting 5 f_10, cI aC m_refused 7 mr] := by rw [e_f_10]; exact ⟨hP, hD⟩
      have hP := hpd9.1
      have hD := hpd9.2
      clear hpd9
      refine lv_iload hx hb dX12_set_52 (lv_at hl 0 rfl) ?_
      have hpd9 := pd_N (cx := [oX12 g0 m_refused m_kind m_figure m_weight m_got m_setting (nI n) (nI sn) dn m_tape m_letter m_letterAt m_told tp mat stm m_kept him ki crs m_price m_offer m_gets m_yes m_buys m_ends m_carried m_row rm m_keptRow m_likeGets m_likePrice m_ahead, cI aC m_setting 5 f_10, cI aC m_refused 7 mr]) hP hD [0, 1, 2] (by decide) rfl
      have hP9 := hpd9.1
      have hD9 := hpd9.2
      refine W.widen (k := 0) (n := 0) (by omega) (by omega) ?_
      exact W.iret (v := x_8) hx hb hr (fun t ht hW => ⟨⟨x_8, (f_10, mr), rfl, ⟨by rw [e_8]; unfold setR; rw [if_neg (isin_y hz_3 c_2).1, if_neg (Int32.not_le.mpr (w5 (isin_y hz_3 c_2).2)), if_neg (bnd_0 hz_23 c_6).1, if_neg (by rw [← e_4]; exact (bnd_0 hz_23 c_6).2)]; obtain ⟨a, b, q1, q2, -⟩ := SOK_ix ⟨(isin_y hz_3 c_2).1, w5 (isin_y hz_3 c_2).2, (bnd_0 hz_23 c_6).1, by rw [← e_4]; exact (bnd_0 hz_23 c_6).2⟩; rw [q2, nI_clamp (by omega)]; exact hev.2.1 a q1, fun q => absurd ⟨(isin_y hz_3 c_2).1, w5 (isin_y hz_3 c_2).2, (bnd_0 hz_23 c_6).1, by rw [← e_4]; exact (bnd_0 hz_23 c_6).2⟩ q, EVS_set hev ⟨(isin_y hz_3 c_2).1, w5 (isin_y hz_3 c_2).2, (bnd_0 hz_23 c_6).1, by rw [← e_4]; exact (bnd_0 hz_23 c_6).2⟩ e_f_10⟩, by rw [ht]; exact hP9, va_K.moved hW.alike hK, hD9⟩, hS.F ht⟩) hS.2.2 dX12_set_54
    · refine lv_aload_n hx hb dX12_set_31 rfl (lv_at hl 1 rfl) ?_
      refine lv_iload_n hx hb dX12_set_32 rfl (lv_at hl 0 rfl) ?_
      have hpd9 := pdf_N (cx := [oX12 g0 m_refused m_kind m_figure m_weight m_got m_setting (nI n) (nI sn) dn m_tape m_letter m_letterAt m_told tp mat stm m_kept him ki crs m_price m_offer m_gets m_yes m_buys m_ends m_carried m_row rm m_keptRow m_likeGets m_likePrice m_ahead, cI aC m_refused 7 mr]) hP hD hS hA [0, 2] (by decide) rfl
      have hPc := hpd9.1
      have hDc := hpd9.2.1
      have hFc := hpd9.2.2
      clear hpd9
      refine va_calli (va_runV (As := [Value.int x_5]) (rest := []) ⟨hx, hb, hml, hown, hts⟩ (c_X12_no l dC dI aC H.size g0 m_refused m_kind m_figure m_weight m_got m_setting m_tape m_letter m_letterAt m_told m_kept m_price m_offer m_gets m_yes m_buys m_ends m_carried m_row m_keptRow m_likeGets m_likePrice m_ahead (nI n) (nI sn) dn tp mat stm him ki crs rm x_5 ((-x_5 : Int32).toNatClampNeg) mr (rfl) (by rcases bnd_n hz_23 c_6 with ⟨q1, q2⟩ | ⟨q1, q2, q3⟩ <;> first | (rw [q2]; unfold vp_in; decide) | (rw [q3]; unfold vp_in; decide))) ⟨(callB_of 1 hts (gG kw_827) rfl rfl rfl (hts _ (gw kw_13 rfl)) (hts _ (gw kw_824 rfl)) hd_X12_no ⟨Nat.le_of_ble_eq_true rfl, Nat.le_of_ble_eq_true rfl⟩), (hts _ (gw kw_826 rfl)), (hts _ (gw ks_35 rfl))⟩ ⟨fb_std, va_recv (q := (RX12, TX12, 33)) hK hPc (ci := 12) (q0 := 0) rfl rfl, pre_std hPc hK hDc hN⟩ rfl rfl hl.1 rfl (lv_room (Nat.le_of_ble_eq_true rfl)) dX12_set_33 ⟨Nat.le_of_ble_eq_true rfl, Nat.le_of_ble_eq_true rfl⟩) hS (fun q _ h => hFc q h) hFc (fun x_11 u9 t9 H1 locs ht hvm hw_11 hB hz1 hk1 hS => ?_)
      obtain ⟨u_12, rfl⟩ : ∃ z, z = u9 := ⟨_, rfl⟩
      obtain ⟨hP1, hK1, hD1⟩ := hB
      rw [ht] at hP1
      clear hK1
      try dsimp only at hw_11
      have hpd9 : PDx (dC, dI) classes A H1 [cI aC m_setting 5 stf, oX12 g0 m_refused m_kind m_figure m_weight m_got m_setting (nI n) (nI sn) dn m_tape m_letter m_letterAt m_told tp mat stm m_kept him ki crs m_price m_offer m_gets m_yes m_buys m_ends m_carried m_row rm m_keptRow m_likeGets m_likePrice m_ahead, cI aC m_refused 7 u_12] := jn_N (wr := [cI aC m_setting 5 stf]) hFc hk1 hP1 hD1 hP hD [0, 2] [1] rfl rfl (by decide) (by decide)
      have hP := hpd9.1
      have hD := hpd9.2
      clear hpd9
      generalize H1 = H at hP hS ⊢
      clear hPc hDc hFc hz1 hk1 hP1 hD1 ht hvm
      obtain ⟨hv9, -⟩ := hw_11
      have hpd9 := pd_N (cx := [oX12 g0 m_refused m_kind m_figure m_weight m_got m_setting (nI n) (nI sn) dn m_tape m_letter m_letterAt m_told tp mat stm m_kept him ki crs m_price m_offer m_gets m_yes m_buys m_ends m_carried m_row rm m_keptRow m_likeGets m_likePrice m_ahead, cI aC m_setting 5 stf, cI aC m_refused 7 u_12]) hP hD [1, 0, 2] (by decide) rfl
      have hP9 := hpd9.1
      have hD9 := hpd9.2
      refine W.widen (k := 0) (n := 0) (by omega) (by omega) ?_
      exact W.iret (v := x_11) hx hb hr (fun t ht hW => ⟨⟨x_11, (stf, u_12), rfl, by rcases bnd_n hz_23 c_6 with ⟨q1, q2⟩ | ⟨q1, q2, q3⟩ <;> first | exact ⟨by rw [hv9, q2]; unfold setR; rw [if_neg (isin_y hz_3 c_2).1, if_neg (Int32.not_le.mpr (w5 (isin_y hz_3 c_2).2)), if_pos q1], fun _ => rfl, by rw [setS_n (fun z => z.2.2.1 q1)]; exact hev⟩ | exact ⟨by rw [hv9, q3]; unfold setR; rw [if_neg (isin_y hz_3 c_2).1, if_neg (Int32.not_le.mpr (w5 (isin_y hz_3 c_2).2)), if_neg q1, if_pos (by rw [← e_4]; exact q2)], fun _ => rfl, by rw [setS_n (fun z => z.2.2.2 (by rw [← e_4]; exact q2))]; exact hev⟩, by rw [ht]; exact hP9, va_K.moved hW.alike hK, hD9⟩, hS.F ht⟩) hS.2.2 dX12_set_36
  · refine lv_aload_n hx hb dX12_set_9 rfl (lv_at hl 0 rfl) ?_
    refine lv_bipush (v := -2) hx hb dX12_set_10 (by decide) ?_
    have hpd9 := pdf_N (cx := [oX12 g0 m_refused m_kind m_figure m_weight m_got m_setting (nI n) (nI sn) dn m_tape m_letter m_letterAt m_told tp mat stm m_kept him ki crs m_price m_offer m_gets m_yes m_buys m_ends m_carried m_row rm m_keptRow m_likeGets m_likePrice m_ahead, cI aC m_refused 7 mr]) hP hD hS hA [0, 2] (by decide) rfl
    have hPc := hpd9.1
    have hDc := hpd9.2.1
    have hFc := hpd9.2.2
    clear hpd9
    refine va_calli (va_runV (As := [Value.int (-2)]) (rest := []) ⟨hx, hb, hml, hown, hts⟩ (c_X12_no l dC dI aC H.size g0 m_refused m_kind m_figure m_weight m_got m_setting m_tape m_letter m_letterAt m_told m_kept m_price m_offer m_gets m_yes m_buys m_ends m_carried m_row m_keptRow m_likeGets m_likePrice m_ahead (nI n) (nI sn) dn tp mat stm him ki crs rm (-2) 2 mr (by decide) (by unfold vp_in; decide)) ⟨(callB_of 1 hts (gG kw_827) rfl rfl rfl (hts _ (gw kw_13 rfl)) (hts _ (gw kw_824 rfl)) hd_X12_no ⟨Nat.le_of_ble_eq_true rfl, Nat.le_of_ble_eq_true rfl⟩), (hts _ (gw kw_826 rfl)), (hts _ (gw ks_35 rfl))⟩ ⟨fb_std, va_recv (q := (RX12, TX12, 33)) hK hPc (ci := 12) (q0 := 0) rfl rfl, pre_std hPc hK hDc hN⟩ rfl rfl hl.1 rfl (lv_room (Nat.le_of_ble_eq_true rfl)) dX12_set_12 ⟨Nat.le_of_ble_eq_true rfl, Nat.le_of_ble_eq_true rfl⟩) hS (fun q _ h => hFc q h) hFc (fun x_13 u9 t9 H1 locs ht hvm hw_13 hB hz1 hk1 hS => ?_)
    obtain ⟨u_14, rfl⟩ : ∃ z, z = u9 := ⟨_, rfl⟩
    obtain ⟨hP1, hK1, hD1⟩ := hB
    rw [ht] at hP1
    clear hK1
    try dsimp only at hw_13
    have hpd9 : PDx (dC, dI) classes A H1 [cI aC m_setting 5 stf, oX12 g0 m_refused m_kind m_figure m_weight m_got m_setting (nI n) (nI sn) dn m_tape m_letter m_letterAt m_told tp mat stm m_kept him ki crs m_price m_offer m_gets m_yes m_buys m_ends m_carried m_row rm m_keptRow m_likeGets m_likePrice m_ahead, cI aC m_refused 7 u_14] := jn_N (wr := [cI aC m_setting 5 stf]) hFc hk1 hP1 hD1 hP hD [0, 2] [1] rfl rfl (by decide) (by decide)
    have hP := hpd9.1
    have hD := hpd9.2
    clear hpd9
    generalize H1 = H at hP hS ⊢
    clear hPc hDc hFc hz1 hk1 hP1 hD1 ht hvm
    obtain ⟨hv9, -⟩ := hw_13
    have hpd9 := pd_N (cx := [oX12 g0 m_refused m_kind m_figure m_weight m_got m_setting (nI n) (nI sn) dn m_tape m_letter m_letterAt m_told tp mat stm m_kept him ki crs m_price m_offer m_gets m_yes m_buys m_ends m_carried m_row rm m_keptRow m_likeGets m_likePrice m_ahead, cI aC m_setting 5 stf, cI aC m_refused 7 u_14]) hP hD [1, 0, 2] (by decide) rfl
    have hP9 := hpd9.1
    have hD9 := hpd9.2
    refine W.widen (k := 0) (n := 0) (by omega) (by omega) ?_
    exact W.iret (v := x_13) hx hb hr (fun t ht hW => ⟨⟨x_13, (stf, u_14), rfl, by rcases isin_n hz_3 c_2 with q | q <;> first | exact ⟨by rw [hv9]; unfold setR; rw [if_pos q], fun _ => rfl, by rw [setS_n (fun z => z.1 q)]; exact hev⟩ | exact ⟨by rw [hv9]; unfold setR; rw [if_neg (fun z => absurd (Int32.lt_trans q z) (by decide)), if_pos (w5n q)], fun _ => rfl, by rw [setS_n (fun z => absurd (w5n q) (Int32.not_le.mpr z.2.1))]; exact hev⟩, by rw [ht]; exact hP9, va_K.moved hW.alike hK, hD9⟩, hS.F ht⟩) hS.2.2 dX12_set_15

set_option maxHeartbeats 1000000 in
set_option maxRecDepth 100000 in
/-- X12_count -/
theorem c_X12_count (l : Launch) (dC : Nat → ClassId) (dI : Nat → Nat → Nat) (aC : Nat → ClassId) (sz : Nat) (g0 : Nat) (m_refused : Nat) (m_kind : Nat) (m_figure : Nat) (m_weight : Nat) (m_got : Nat) (m_setting : Nat) (m_tape : Nat) (m_letter : Nat) (m_letterAt : Nat) (m_told : Nat) (m_kept : Nat) (m_price : Nat) (m_offer : Nat) (m_gets : Nat) (m_yes : Nat) (m_buys : Nat) (m_ends : Nat) (m_carried : Nat) (m_row : Nat) (m_keptRow : Nat) (m_likeGets : Nat) (m_likePrice : Nat) (m_ahead : Nat) (tp : Int32) (mat : Int32) (stm : Int32) (him : Int32) (ki : Int32) (crs : Int32) (rm : Int32) (n : Nat) (sn : Nat) (dn : Int32) (kf : Nat → Int32) (ff : Nat → Int32) (wf : Nat → Int32) (stf : Nat → Int32) (pf : Nat → Int32) (of : Nat → Int32) (gf : Nat → Int32) (yf : Nat → Int32) (bf : Nat → Int32) (ef : Nat → Int32) (cf : Nat → Int32) (K : Nat → Nat) (F : Nat → Nat) (W0 : Nat → Nat) (S5 : Nat → Nat) (mr : Nat → Int32) (w : Int32) (hev : EVS n sn dn K F W0 S5 kf ff wf stf) : Met l yX12_count (wW yX12_count cX12_count 2 (some .int)) ({ frames := 5, cells := 0, slots := 0, locals := 115 } : Room) (va_Pc [Value.ref g0, Value.int w] (fun U => U.heap.size = sz ∧ va_P (dC, dI) classes [oX12 g0 m_refused m_kind m_figure m_weight m_got m_setting (nI n) (nI sn) dn m_tape m_letter m_letterAt m_told tp mat stm m_kept him ki crs m_price m_offer m_gets m_yes m_buys m_ends m_carried m_row rm m_keptRow m_likeGets m_likePrice m_ahead, cI aC m_kind 9 kf, cI aC m_figure 9 ff, cI aC m_weight 9 wf, cI aC m_setting 5 stf, cI aC m_price 81 pf, cI aC m_offer 81 of, cI aC m_gets 90 gf, cI aC m_yes 9 yf, cI aC m_buys 9 bf, cI aC m_ends 9 ef, cI aC m_carried 9 cf, cI aC m_refused 7 mr] U.heap ∧ va_K (dC, dI) classes (TY aC) U ∧ va_D (fun _ => True) [oX12 g0 m_refused m_kind m_figure m_weight m_got m_setting (nI n) (nI sn) dn m_tape m_letter m_letterAt m_told tp mat stm m_kept him ki crs m_price m_offer m_gets m_yes m_buys m_ends m_carried m_row rm m_keptRow m_likeGets m_likePrice m_ahead, cI aC m_kind 9 kf, cI aC m_figure 9 ff, cI aC m_weight 9 wf, cI aC m_setting 5 stf, cI aC m_price 81 pf, cI aC m_offer 81 of, cI aC m_gets 90 gf, cI aC m_yes 9 yf, cI aC m_buys 9 bf, cI aC m_ends 9 ef, cI aC m_carried 9 cf, cI aC m_refused 7 mr] ∧ NX U)) (va_Qi (fun (r : Int32) (u : (Nat → Int32) × (Nat → Int32) × (Nat → Int32) × (Nat → Int32) × (Nat → Int32) × (Nat → Int32) × (Nat → Int32)) => match u with | (pf2, of2, gf2, yf2, bf2, ef2, cf2) => True) (fun (u : (Nat → Int32) × (Nat → Int32) × (Nat → Int32) × (Nat → Int32) × (Nat → Int32) × (Nat → Int32) × (Nat → Int32)) (t : State) => match u with | (pf2, of2, gf2, yf2, bf2, ef2, cf2) => va_P (dC, dI) classes [oX12 g0 m_refused m_kind m_figure m_weight m_got m_setting (nI n) (nI sn) dn m_tape m_letter m_letterAt m_told tp mat stm m_kept him ki crs m_price m_offer m_gets m_yes m_buys m_ends m_carried m_row rm m_keptRow m_likeGets m_likePrice m_ahead, cI aC m_kind 9 kf, cI aC m_figure 9 ff, cI aC m_weight 9 wf, cI aC m_setting 5 stf, cI aC m_price 81 pf2, cI aC m_offer 81 of2, cI aC m_gets 90 gf2, cI aC m_yes 9 yf2, cI aC m_buys 9 bf2, cI aC m_ends 9 ef2, cI aC m_carried 9 cf2, cI aC m_refused 7 mr] t.heap ∧ va_K (dC, dI) classes (TY aC) t ∧ va_D (va_A [oX12 g0 m_refused m_kind m_figure m_weight m_got m_setting (nI n) (nI sn) dn m_tape m_letter m_letterAt m_told tp mat stm m_kept him ki crs m_price m_offer m_gets m_yes m_buys m_ends m_carried m_row rm m_keptRow m_likeGets m_likePrice m_ahead, cI aC m_kind 9 kf, cI aC m_figure 9 ff, cI aC m_weight 9 wf, cI aC m_setting 5 stf, cI aC m_price 81 pf, cI aC m_offer 81 of, cI aC m_gets 90 gf, cI aC m_yes 9 yf, cI aC m_buys 9 bf, cI aC m_ends 9 ef, cI aC m_carried 9 cf, cI aC m_refused 7 mr] sz) [oX12 g0 m_refused m_kind m_figure m_weight m_got m_setting (nI n) (nI sn) dn m_tape m_letter m_letterAt m_told tp mat stm m_kept him ki crs m_price m_offer m_gets m_yes m_buys m_ends m_carried m_row rm m_keptRow m_likeGets m_likePrice m_ahead, cI aC m_kind 9 kf, cI aC m_figure 9 ff, cI aC m_weight 9 wf, cI aC m_setting 5 stf, cI aC m_price 81 pf2, cI aC m_offer 81 of2, cI aC m_gets 90 gf2, cI aC m_yes 9 yf2, cI aC m_buys 9 bf2, cI aC m_ends 9 ef2, cI aC m_carried 9 cf2, cI aC m_refused 7 mr]) (va_A [oX12 g0 m_refused m_kind m_figure m_weight m_got m_setting (nI n) (nI sn) dn m_tape m_letter m_letterAt m_told tp mat stm m_kept him ki crs m_price m_offer m_gets m_yes m_buys m_ends m_carried m_row rm m_keptRow m_likeGets m_likePrice m_ahead, cI aC m_kind 9 kf, cI aC m_figure 9 ff, cI aC m_weight 9 wf, cI aC m_setting 5 stf, cI aC m_price 81 pf, cI aC m_offer 81 of, cI aC m_gets 90 gf, cI aC m_yes 9 yf, cI aC m_buys 9 bf, cI aC m_ends 9 ef, cI aC m_carried 9 cf, cI aC m_refused 7 mr] sz)) 0 0 (va_A [oX12 g0 m_refused m_kind m_figure m_weight m_got m_setting (nI n) (nI sn) dn m_tape m_letter m_letterAt m_told tp mat stm m_kept him ki crs m_price m_offer m_gets m_yes m_buys m_ends m_carried m_row rm m_keptRow m_likeGets m_likePrice m_ahead, cI aC m_kind 9 kf, cI aC m_figure 9 ff, cI aC m_weight 9 wf, cI aC m_setting 5 stf, cI aC m_price 81 pf, cI aC m_offer 81 of, cI aC m_gets 90 gf, cI aC m_yes 9 yf, cI aC m_buys 9 bf, cI aC m_ends 9 ef, cI aC m_carried 9 cf, cI aC m_refused 7 mr] sz) := by
  refine Met.ofW (cc := cX12_count) (maxL := 2) (ret := (some .int)) (by decide) rfl ?_
  intro p e s m args below meth c s₁ B hml hv
  obtain ⟨rfl, hsz, hP, hK, hD0, hN⟩ := hv
  have hx := B.exec
  have hb := B.bytes
  have hr := B.returns
  have hts0 := atoms_spec (ws := (wW yX12_count cX12_count 2 (some .int))) B.pre
  have hts : ∀ w9 ∈ lw_G, w9.before ([Value.ref g0, Value.int w] : List Value).toArray s = true := fun w9 h9 => hts0 w9 (List.mem_cons_of_mem _ h9)
  have hown : s.vm.findClass RX12 = some m.cls := findClass_of_methodNamed (x := yX12_count) B.named
  have hlocks := B.notSynchronized
  subst hsz
  have hD := hD0.self (sz := s.heap.size)
  generalize hAe : va_A [oX12 g0 m_refused m_kind m_figure m_weight m_got m_setting (nI n) (nI sn) dn m_tape m_letter m_letterAt m_told tp mat stm m_kept him ki crs m_price m_offer m_gets m_yes m_buys m_ends m_carried m_row rm m_keptRow m_likeGets m_likePrice m_ahead, cI aC m_kind 9 kf, cI aC m_figure 9 ff, cI aC m_weight 9 wf, cI aC m_setting 5 stf, cI aC m_price 81 pf, cI aC m_offer 81 of, cI aC m_gets 90 gf, cI aC m_yes 9 yf, cI aC m_buys 9 bf, cI aC m_ends 9 ef, cI aC m_carried 9 cf, cI aC m_refused 7 mr] s.heap.size = A at hD ⊢
  have hA : ∀ q : Nat, s.heap.size ≤ q → A q := fun q h => by rw [← hAe]; exact Or.inr h
  obtain ⟨H, hHe⟩ : ∃ H : Heap, H = s.heap := ⟨_, rfl⟩
  have hS : va_S A s.heap H [] := by rw [hHe]; exact va_S.rf
  have hP : va_P (dC, dI) classes [oX12 g0 m_refused m_kind m_figure m_weight m_got m_setting (nI n) (nI sn) dn m_tape m_letter m_letterAt m_told tp mat stm m_kept him ki crs m_price m_offer m_gets m_yes m_buys m_ends m_carried m_row rm m_keptRow m_likeGets m_likePrice m_ahead, cI aC m_kind 9 kf, cI aC m_figure 9 ff, cI aC m_weight 9 wf, cI aC m_setting 5 stf, cI aC m_price 81 pf, cI aC m_offer 81 of, cI aC m_gets 90 gf, cI aC m_yes 9 yf, cI aC m_buys 9 bf, cI aC m_ends 9 ef, cI aC m_carried 9 cf, cI aC m_refused 7 mr] H := by rw [hHe]; exact hP
  have hl := lv_entry ([Value.ref g0, Value.int w]) (n := 2) (Nat.le_of_ble_eq_true rfl)
  rw [lg_entry_eq]
  generalize (lg_sl ([Value.ref g0, Value.int w]) ++ List.replicate (2 - (lg_sl ([Value.ref g0, Value.int w])).length) Slot.unset).toArray = ls at hl ⊢
  have hl : lv_has ls 2 [(0, Value.ref g0), (1, Value.int w)] := hl
  rw [← hHe]
  have hn8 := EVS_n hev
  refine lv_iload_n hx hb dX12_count_0 rfl (lv_at hl 1 rfl) ?_
  refine lv_bipush (v := 11) hx hb dX12_count_1 (by decide) ?_
  refine lv_bipush (v := 16) hx hb dX12_count_3 (by decide) ?_
  have hpd9 := pdf_N (cx := []) hP hD hS hA [] (by decide) rfl
  have hPc := hpd9.1
  have hDc := hpd9.2.1
  have hFc := hpd9.2.2
  clear hpd9
  refine va_calli (va_runS (As := [Value.int w, Value.int 11, Value.int 16]) (rest := []) ⟨hx, hb, hml, hown, hts⟩ (c_X12_isIn l dC dI aC H.size w 11 16 ) ⟨(callB_of 3 hts (gG kw_846) rfl rfl rfl (hts _ (gw kw_13 rfl)) (hts _ (gw kw_844 rfl)) hd_X12_isIn ⟨Nat.le_of_ble_eq_true rfl, Nat.le_of_ble_eq_true rfl⟩), (hts _ (gw kw_845 rfl))⟩ ⟨fb_std, pre_std hPc hK hDc hN⟩ rfl rfl hl.1 rfl (lv_room (Nat.le_of_ble_eq_true rfl)) dX12_count_5 ⟨Nat.le_of_ble_eq_true rfl, Nat.le_of_ble_eq_true rfl⟩) hS (fun q _ h => hFc q h) hFc (fun x_1 u9 t9 H1 locs ht hvm hw_1 hB hz1 hk1 hS => ?_)
  obtain ⟨hP1, hK1, hD1⟩ := hB
  rw [ht] at hP1
  clear hK1
  try dsimp only at hw_1
  have hpd9 : PDx (dC, dI) classes A H1 [oX12 g0 m_refused m_kind m_figure m_weight m_got m_setting (nI n) (nI sn) dn m_tape m_letter m_letterAt m_told tp mat stm m_kept him ki crs m_price m_offer m_gets m_yes m_buys m_ends m_carried m_row rm m_keptRow m_likeGets m_likePrice m_ahead, cI aC m_kind 9 kf, cI aC m_figure 9 ff, cI aC m_weight 9 wf, cI aC m_setting 5 stf, cI aC m_price 81 pf, cI aC m_offer 81 of, cI aC m_gets 90 gf, cI aC m_yes 9 yf, cI aC m_buys 9 bf, cI aC m_ends 9 ef, cI aC m_carried 9 cf, cI aC m_refused 7 mr] := jn_N (wr := [oX12 g0 m_refused m_kind m_figure m_weight m_got m_setting (nI n) (nI sn) dn m_tape m_letter m_letterAt m_told tp mat stm m_kept him ki crs m_price m_offer m_gets m_yes m_buys m_ends m_carried m_row rm m_keptRow m_likeGets m_likePrice m_ahead, cI aC m_kind 9 kf, cI aC m_figure 9 ff, cI aC m_weight 9 wf, cI aC m_setting 5 stf, cI aC m_price 81 pf, cI aC m_offer 81 of, cI aC m_gets 90 gf, cI aC m_yes 9 yf, cI aC m_buys 9 bf, cI aC m_ends 9 ef, cI aC m_carried 9 cf, cI aC m_refused 7 mr]) hFc hk1 hP1 hD1 hP hD [] [0, 1, 2, 3, 4, 5, 6, 7, 8, 9, 10, 11, 12] rfl rfl (by decide) (by decide)
  have hP := hpd9.1
  have hD := hpd9.2
  clear hpd9
  generalize H1 = H at hP hS ⊢
  clear hPc hDc hFc hz1 hk1 hP1 hD1 ht hvm
  have hz_5 := hw_1
  refine lv_if_eq (tgt := 21) hx hb dX12_count_8 (by decide) (fun c_2 => ?_) (fun c_2 => ?_)
  · refine lv_iload_n hx hb dX12_count_21 rfl (lv_at hl 1 rfl) ?_
    by_cases c_3 : w = 0
    · refine lv_tableIn (tgt := 64) hx hb dX12_count_22 (by rw [c_3]; decide) (by rw [c_3]; decide) (by rw [c_3]; rfl) (by decide) ?_
      refine lv_aload_n hx hb dX12_count_64 rfl (lv_at hl 0 rfl) ?_
      refine va_get (D := (dC, dI)) (ci := 12) (v := Value.int (nI n)) (C := RX12) (T := TX12) (N := 33) hx hb hts inX12 hown hK hP 0 rfl rfl 6 (by decide) (hts _ (gw kw_723 rfl)) (fun _ h9 => h9) rfl dX12_count_65 ?_
      have hpd9 := pd_N (cx := [oX12 g0 m_refused m_kind m_figure m_weight m_got m_setting (nI n) (nI sn) dn m_tape m_letter m_letterAt m_told tp mat stm m_kept him ki crs m_price m_offer m_gets m_yes m_buys m_ends m_carried m_row rm m_keptRow m_likeGets m_likePrice m_ahead, cI aC m_kind 9 kf, cI aC m_figure 9 ff, cI aC m_weight 9 wf, cI aC m_setting 5 stf, cI aC m_price 81 pf, cI aC m_offer 81 of, cI aC m_gets 90 gf, cI aC m_yes 9 yf, cI aC m_buys 9 bf, cI aC m_ends 9 ef, cI aC m_carried 9 cf, cI aC m_refused 7 mr]) hP hD [0, 1, 2, 3, 4, 5, 6, 7, 8, 9, 10, 11, 12] (by decide) rfl
      have hP9 := hpd9.1
      have hD9 := hpd9.2
      refine W.widen (k := 0) (n := 0) (by omega) (by omega) ?_
      exact W.iret (v := nI n) hx hb hr (fun t ht hW => ⟨⟨(nI n), (pf, of, gf, yf, bf, ef, cf), rfl, trivial, by rw [ht]; exact hP9, va_K.moved hW.alike hK, hD9⟩, hS.F ht⟩) hS.2.2 dX12_count_68
    by_cases c_4 : w = 1
    · refine lv_tableIn (tgt := 69) hx hb dX12_count_22 (by rw [c_4]; decide) (by rw [c_4]; decide) (by rw [c_4]; rfl) (by decide) ?_
      refine lv_aload_n hx hb dX12_count_69 rfl (lv_at hl 0 rfl) ?_
      refine va_get (D := (dC, dI)) (ci := 12) (v := Value.int (nI sn)) (C := RX12) (T := TX12) (N := 33) hx hb hts inX12 hown hK hP 0 rfl rfl 7 (by decide) (hts _ (gw kw_724 rfl)) (fun _ h9 => h9) rfl dX12_count_70 ?_
      have hpd9 := pd_N (cx := [oX12 g0 m_refused m_kind m_figure m_weight m_got m_setting (nI n) (nI sn) dn m_tape m_letter m_letterAt m_told tp mat stm m_kept him ki crs m_price m_offer m_gets m_yes m_buys m_ends m_carried m_row rm m_keptRow m_likeGets m_likePrice m_ahead, cI aC m_kind 9 kf, cI aC m_figure 9 ff, cI aC m_weight 9 wf, cI aC m_setting 5 stf, cI aC m_price 81 pf, cI aC m_offer 81 of, cI aC m_gets 90 gf, cI aC m_yes 9 yf, cI aC m_buys 9 bf, cI aC m_ends 9 ef, cI aC m_carried 9 cf, cI aC m_refused 7 mr]) hP hD [0, 1, 2, 3, 4, 5, 6, 7, 8, 9, 10, 11, 12] (by decide) rfl
      have hP9 := hpd9.1
      have hD9 := hpd9.2
      refine W.widen (k := 0) (n := 0) (by omega) (by omega) ?_
      exact W.iret (v := nI sn) hx hb hr (fun t ht hW => ⟨⟨(nI sn), (pf, of, gf, yf, bf, ef, cf), rfl, trivial, by rw [ht]; exact hP9, va_K.moved hW.alike hK, hD9⟩, hS.F ht⟩) hS.2.2 dX12_count_73
    by_cases c_5 : w = 2
    · refine lv_tableIn (tgt := 74) hx hb dX12_count_22 (by rw [c_5]; decide) (by rw [c_5]; decide) (by rw [c_5]; rfl) (by decide) ?_
      refine lv_aload_n hx hb dX12_count_74 rfl (lv_at hl 0 rfl) ?_
      refine va_get (D := (dC, dI)) (ci := 12) (v := Value.int dn) (C := RX12) (T := TX12) (N := 33) hx hb hts inX12 hown hK hP 0 rfl rfl 8 (by decide) (hts _ (gw kw_725 rfl)) (fun _ h9 => h9) rfl dX12_count_75 ?_
      have hpd9 := pd_N (cx := [oX12 g0 m_refused m_kind m_figure m_weight m_got m_setting (nI n) (nI sn) dn m_tape m_letter m_letterAt m_told tp mat stm m_kept him ki crs m_price m_offer m_gets m_yes m_buys m_ends m_carried m_row rm m_keptRow m_likeGets m_likePrice m_ahead, cI aC m_kind 9 kf, cI aC m_figure 9 ff, cI aC m_weight 9 wf, cI aC m_setting 5 stf, cI aC m_price 81 pf, cI aC m_offer 81 of, cI aC m_gets 90 gf, cI aC m_yes 9 yf, cI aC m_buys 9 bf, cI aC m_ends 9 ef, cI aC m_carried 9 cf, cI aC m_refused 7 mr]) hP hD [0, 1, 2, 3, 4, 5, 6, 7, 8, 9, 10, 11, 12] (by decide) rfl
      have hP9 := hpd9.1
      have hD9 := hpd9.2
      refine W.widen (k := 0) (n := 0) (by omega) (by omega) ?_
      exact W.iret (v := dn) hx hb hr (fun t ht hW => ⟨⟨dn, (pf, of, gf, yf, bf, ef, cf), rfl, trivial, by rw [ht]; exact hP9, va_K.moved hW.alike hK, hD9⟩, hS.F ht⟩) hS.2.2 dX12_count_78
    by_cases c_6 : w = 3
    · refine lv_tableIn (tgt := 79) hx hb dX12_count_22 (by rw [c_6]; decide) (by rw [c_6]; decide) (by rw [c_6]; rfl) (by decide) ?_
      refine lv_aload_n hx hb dX12_count_79 rfl (lv_at hl 0 rfl) ?_
      refine lv_aload_n hx hb dX12_count_80 rfl (lv_at hl 0 rfl) ?_
      refine lv_aload_n hx hb dX12_count_81 rfl (lv_at hl 0 rfl) ?_
      refine va_get (D := (dC, dI)) (ci := 12) (v := Value.int (nI sn)) (C := RX12) (T := TX12) (N := 33) hx hb hts inX12 hown hK hP 0 rfl rfl 7 (by decide) (hts _ (gw kw_724 rfl)) (fun _ h9 => h9) rfl dX12_count_82 ?_
      have hpd9 := pdf_N (cx := [oX12 g0 m_refused m_kind m_figure m_weight m_got m_setting (nI n) (nI sn) dn m_tape m_letter m_letterAt m_told tp mat stm m_kept him ki crs m_price m_offer m_gets m_yes m_buys m_ends m_carried m_row rm m_keptRow m_likeGets m_likePrice m_ahead]) hP hD hS hA [0] (by decide) rfl
      have hPc := hpd9.1
      have hDc := hpd9.2.1
      have hFc := hpd9.2.2
      clear hpd9
      refine va_calli (va_runV (As := [Value.int (nI sn)]) (rest := [Value.ref g0]) ⟨hx, hb, hml, hown, hts⟩ (c_X12_leftFrom l dC dI aC H.size g0 m_refused m_kind m_figure m_weight m_got m_setting m_tape m_letter m_letterAt m_told m_kept m_price m_offer m_gets m_yes m_buys m_ends m_carried m_row m_keptRow m_likeGets m_likePrice m_ahead (nI sn) dn tp mat stm him ki crs rm n sn (⟨sn_le hev, hn8⟩)) ⟨(callB_of 1 hts (gG kw_922) rfl rfl rfl (hts _ (gw kw_13 rfl)) (hts _ (gw kw_919 rfl)) hd_X12_leftFrom ⟨Nat.le_of_ble_eq_true rfl, Nat.le_of_ble_eq_true rfl⟩), (hts _ (gw kw_921 rfl)), (hts _ (gw ks_50 rfl))⟩ ⟨fb_std, va_recv (q := (RX12, TX12, 33)) hK hPc (ci := 12) (q0 := 0) rfl rfl, pre_std hPc hK hDc hN⟩ rfl rfl hl.1 rfl (lv_room (Nat.le_of_ble_eq_true rfl)) dX12_count_85 ⟨Nat.le_of_ble_eq_true rfl, Nat.le_of_ble_eq_true rfl⟩) hS (fun q _ h => hFc q h) hFc (fun x_7 u9 t9 H1 locs ht hvm hw_7 hB hz1 hk1 hS => ?_)
      obtain ⟨hP1, hK1, hD1⟩ := hB
      rw [ht] at hP1
      clear hK1
      try dsimp only at hw_7
      have hpd9 : PDx (dC, dI) classes A H1 [cI aC m_kind 9 kf, cI aC m_figure 9 ff, cI aC m_weight 9 wf, cI aC m_setting 5 stf, cI aC m_price 81 pf, cI aC m_offer 81 of, cI aC m_gets 90 gf, cI aC m_yes 9 yf, cI aC m_buys 9 bf, cI aC m_ends 9 ef, cI aC m_carried 9 cf, cI aC m_refused 7 mr, oX12 g0 m_refused m_kind m_figure m_weight m_got m_setting (nI n) (nI sn) dn m_tape m_letter m_letterAt m_told tp mat stm m_kept him ki crs m_price m_offer m_gets m_yes m_buys m_ends m_carried m_row rm m_keptRow m_likeGets m_likePrice m_ahead] := jn_N (wr := [cI aC m_kind 9 kf, cI aC m_figure 9 ff, cI aC m_weight 9 wf, cI aC m_setting 5 stf, cI aC m_price 81 pf, cI aC m_offer 81 of, cI aC m_gets 90 gf, cI aC m_yes 9 yf, cI aC m_buys 9 bf, cI aC m_ends 9 ef, cI aC m_carried 9 cf, cI aC m_refused 7 mr]) hFc hk1 hP1 hD1 hP hD [0] [1, 2, 3, 4, 5, 6, 7, 8, 9, 10, 11, 12] rfl rfl (by decide) (by decide)
      have hP := hpd9.1
      have hD := hpd9.2
      clear hpd9
      generalize H1 = H at hP hS ⊢
      clear hPc hDc hFc hz1 hk1 hP1 hD1 ht hvm
      have hlf := hw_7
      have hpd9 := pdf_N (cx := [oX12 g0 m_refused m_kind m_figure m_weight m_got m_setting (nI n) (nI sn) dn m_tape m_letter m_letterAt m_told tp mat stm m_kept him ki crs m_price m_offer m_gets m_yes m_buys m_ends m_carried m_row rm m_keptRow m_likeGets m_likePrice m_ahead, cI aC m_weight 9 wf]) hP hD hS hA [12, 2] (by decide) rfl
      have hPc := hpd9.1
      have hDc := hpd9.2.1
      have hFc := hpd9.2.2
      clear hpd9
      refine va_calli (va_runV (As := [Value.int x_7]) (rest := []) ⟨hx, hb, hml, hown, hts⟩ (c_X12_weightOf l dC dI aC H.size g0 m_refused m_kind m_figure m_weight m_got m_setting m_tape m_letter m_letterAt m_told m_kept m_price m_offer m_gets m_yes m_buys m_ends m_carried m_row m_keptRow m_likeGets m_likePrice m_ahead (nI sn) dn tp mat stm him ki crs rm n wf W0 x_7 (HW_of hev.1)) ⟨(callB_of 1 hts (gG kw_930) rfl rfl rfl (hts _ (gw kw_13 rfl)) (hts _ (gw kw_927 rfl)) hd_X12_weightOf ⟨Nat.le_of_ble_eq_true rfl, Nat.le_of_ble_eq_true rfl⟩), (hts _ (gw kw_929 rfl)), (hts _ (gw ks_52 rfl))⟩ ⟨fb_std, va_recv (q := (RX12, TX12, 33)) hK hPc (ci := 12) (q0 := 0) rfl rfl, pre_std hPc hK hDc hN⟩ rfl rfl hl.1 rfl (lv_room (Nat.le_of_ble_eq_true rfl)) dX12_count_88 ⟨Nat.le_of_ble_eq_true rfl, Nat.le_of_ble_eq_true rfl⟩) hS (fun q _ h => hFc q h) hFc (fun x_8 u9 t9 H1 locs ht hvm hw_8 hB hz1 hk1 hS => ?_)
      obtain ⟨hP1, hK1, hD1⟩ := hB
      rw [ht] at hP1
      clear hK1
      try dsimp only at hw_8
      have hpd9 : PDx (dC, dI) classes A H1 [cI aC m_kind 9 kf, cI aC m_figure 9 ff, cI aC m_setting 5 stf, cI aC m_price 81 pf, cI aC m_offer 81 of, cI aC m_gets 90 gf, cI aC m_yes 9 yf, cI aC m_buys 9 bf, cI aC m_ends 9 ef, cI aC m_carried 9 cf, cI aC m_refused 7 mr, oX12 g0 m_refused m_kind m_figure m_weight m_got m_setting (nI n) (nI sn) dn m_tape m_letter m_letterAt m_told tp mat stm m_kept him ki crs m_price m_offer m_gets m_yes m_buys m_ends m_carried m_row rm m_keptRow m_likeGets m_likePrice m_ahead, cI aC m_weight 9 wf] := jn_N (wr := [cI aC m_kind 9 kf, cI aC m_figure 9 ff, cI aC m_setting 5 stf, cI aC m_price 81 pf, cI aC m_offer 81 of, cI aC m_gets 90 gf, cI aC m_yes 9 yf, cI aC m_buys 9 bf, cI aC m_ends 9 ef, cI aC m_carried 9 cf, cI aC m_refused 7 mr]) hFc hk1 hP1 hD1 hP hD [12, 2] [0, 1, 3, 4, 5, 6, 7, 8, 9, 10, 11] rfl rfl (by decide) (by decide)
      have hP := hpd9.1
      have hD := hpd9.2
      clear hpd9
      generalize H1 = H at hP hS ⊢
      clear hPc hDc hFc hz1 hk1 hP1 hD1 ht hvm
      have hpd9 := pd_N (cx := [oX12 g0 m_refused m_kind m_figure m_weight m_got m_setting (nI n) (nI sn) dn m_tape m_letter m_letterAt m_told tp mat stm m_kept him ki crs m_price m_offer m_gets m_yes m_buys m_ends m_carried m_row rm m_keptRow m_likeGets m_likePrice m_ahead, cI aC m_kind 9 kf, cI aC m_figure 9 ff, cI aC m_weight 9 wf, cI aC m_setting 5 stf, cI aC m_price 81 pf, cI aC m_offer 81 of, cI aC m_gets 90 gf, cI aC m_yes 9 yf, cI aC m_buys 9 bf, cI aC m_ends 9 ef, cI aC m_carried 9 cf, cI aC m_refused 7 mr]) hP hD [11, 0, 1, 12, 2, 3, 4, 5, 6, 7, 8, 9, 10] (by decide) rfl
      have hP9 := hpd9.1
      have hD9 := hpd9.2
      refine W.widen (k := 0) (n := 0) (by omega) (by omega) ?_
      exact W.iret (v := x_8) hx hb hr (fun t ht hW => ⟨⟨x_8, (pf, of, gf, yf, bf, ef, cf), rfl, trivial, by rw [ht]; exact hP9, va_K.moved hW.alike hK, hD9⟩, hS.F ht⟩) hS.2.2 dX12_count_91
    by_cases c_9 : w = 4
    · refine lv_tableIn (tgt := 92) hx hb dX12_count_22 (by rw [c_9]; decide) (by rw [c_9]; decide) (by rw [c_9]; rfl) (by decide) ?_
      refine lv_aload_n hx hb dX12_count_92 rfl (lv_at hl 0 rfl) ?_
      refine va_get (D := (dC, dI)) (ci := 12) (v := Value.int tp) (C := RX12) (T := TX12) (N := 33) hx hb hts inX12 hown hK hP 0 rfl rfl 13 (by decide) (hts _ (gw kw_730 rfl)) (fun _ h9 => h9) rfl dX12_count_93 ?_
      have hpd9 := pd_N (cx := [oX12 g0 m_refused m_kind m_figure m_weight m_got m_setting (nI n) (nI sn) dn m_tape m_letter m_letterAt m_told tp mat stm m_kept him ki crs m_price m_offer m_gets m_yes m_buys m_ends m_carried m_row rm m_keptRow m_likeGets m_likePrice m_ahead, cI aC m_kind 9 kf, cI aC m_figure 9 ff, cI aC m_weight 9 wf, cI aC m_setting 5 stf, cI aC m_price 81 pf, cI aC m_offer 81 of, cI aC m_gets 90 gf, cI aC m_yes 9 yf, cI aC m_buys 9 bf, cI aC m_ends 9 ef, cI aC m_carried 9 cf, cI aC m_refused 7 mr]) hP hD [0, 1, 2, 3, 4, 5, 6, 7, 8, 9, 10, 11, 12] (by decide) rfl
      have hP9 := hpd9.1
      have hD9 := hpd9.2
      refine W.widen (k := 0) (n := 0) (by omega) (by omega) ?_
      exact W.iret (v := tp) hx hb hr (fun t ht hW => ⟨⟨tp, (pf, of, gf, yf, bf, ef, cf), rfl, trivial, by rw [ht]; exact hP9, va_K.moved hW.alike hK, hD9⟩, hS.F ht⟩) hS.2.2 dX12_count_96
    by_cases c_10 : w = 5
    · refine lv_tableIn (tgt := 97) hx hb dX12_count_22 (by rw [c_10]; decide) (by rw [c_10]; decide) (by rw [c_10]; rfl) (by decide) ?_
      refine lv_aload_n hx hb dX12_count_97 rfl (lv_at hl 0 rfl) ?_
      refine va_get (D := (dC, dI)) (ci := 12) (v := Value.int rm) (C := RX12) (T := TX12) (N := 33) hx hb hts inX12 hown hK hP 0 rfl rfl 28 (by decide) (hts _ (gw kw_745 rfl)) (fun _ h9 => h9) rfl dX12_count_98 ?_
      have hpd9 := pd_N (cx := [oX12 g0 m_refused m_kind m_figure m_weight m_got m_setting (nI n) (nI sn) dn m_tape m_letter m_letterAt m_told tp mat stm m_kept him ki crs m_price m_offer m_gets m_yes m_buys m_ends m_carried m_row rm m_keptRow m_likeGets m_likePrice m_ahead, cI aC m_kind 9 kf, cI aC m_figure 9 ff, cI aC m_weight 9 wf, cI aC m_setting 5 stf, cI aC m_price 81 pf, cI aC m_offer 81 of, cI aC m_gets 90 gf, cI aC m_yes 9 yf, cI aC m_buys 9 bf, cI aC m_ends 9 ef, cI aC m_carried 9 cf, cI aC m_refused 7 mr]) hP hD [0, 1, 2, 3, 4, 5, 6, 7, 8, 9, 10, 11, 12] (by decide) rfl
      have hP9 := hpd9.1
      have hD9 := hpd9.2
      refine W.widen (k := 0) (n := 0) (by omega) (by omega) ?_
      exact W.iret (v := rm) hx hb hr (fun t ht hW => ⟨⟨rm, (pf, of, gf, yf, bf, ef, cf), rfl, trivial, by rw [ht]; exact hP9, va_K.moved hW.alike hK, hD9⟩, hS.F ht⟩) hS.2.2 dX12_count_101
    by_cases c_11 : w = 6
    · refine lv_tableIn (tgt := 102) hx hb dX12_count_22 (by rw [c_11]; decide) (by rw [c_11]; decide) (by rw [c_11]; rfl) (by decide) ?_
      refine lv_aload_n hx hb dX12_count_102 rfl (lv_at hl 0 rfl) ?_
      have hpd9 := pdf_N (cx := [oX12 g0 m_refused m_kind m_figure m_weight m_got m_setting (nI n) (nI sn) dn m_tape m_letter m_letterAt m_told tp mat stm m_kept him ki crs m_price m_offer m_gets m_yes m_buys m_ends m_carried m_row rm m_keptRow m_likeGets m_likePrice m_ahead]) hP hD hS hA [0] (by decide) rfl
      have hPc := hpd9.1
      have hDc := hpd9.2.1
      have hFc := hpd9.2.2
      clear hpd9
      refine va_calli (va_runV (As := []) (rest := []) ⟨hx, hb, hml, hown, hts⟩ (c_X12_isOver l dC dI aC H.size g0 m_refused m_kind m_figure m_weight m_got m_setting m_tape m_letter m_letterAt m_told m_kept m_price m_offer m_gets m_yes m_buys m_ends m_carried m_row m_keptRow m_likeGets m_likePrice m_ahead (nI n) (nI sn) dn tp mat stm him ki crs rm ) ⟨(callB_of 0 hts (gG kw_994) rfl rfl rfl (hts _ (gw kw_13 rfl)) (hts _ (gw kw_991 rfl)) hd_X12_isOver ⟨Nat.le_of_ble_eq_true rfl, Nat.le_of_ble_eq_true rfl⟩), (hts _ (gw kw_993 rfl)), (hts _ (gw ks_58 rfl))⟩ ⟨fb_std, va_recv (q := (RX12, TX12, 33)) hK hPc (ci := 12) (q0 := 0) rfl rfl, pre_std hPc hK hDc hN⟩ rfl rfl hl.1 rfl (lv_room (Nat.le_of_ble_eq_true rfl)) dX12_count_103 ⟨Nat.le_of_ble_eq_true rfl, Nat.le_of_ble_eq_true rfl⟩) hS (fun q _ h => hFc q h) hFc (fun x_12 u9 t9 H1 locs ht hvm hw_12 hB hz1 hk1 hS => ?_)
      obtain ⟨hP1, hK1, hD1⟩ := hB
      rw [ht] at hP1
      clear hK1
      try dsimp only at hw_12
      have hpd9 : PDx (dC, dI) classes A H1 [cI aC m_kind 9 kf, cI aC m_figure 9 ff, cI aC m_weight 9 wf, cI aC m_setting 5 stf, cI aC m_price 81 pf, cI aC m_offer 81 of, cI aC m_gets 90 gf, cI aC m_yes 9 yf, cI aC m_buys 9 bf, cI aC m_ends 9 ef, cI aC m_carried 9 cf, cI aC m_refused 7 mr, oX12 g0 m_refused m_kind m_figure m_weight m_got m_setting (nI n) (nI sn) dn m_tape m_letter m_letterAt m_told tp mat stm m_kept him ki crs m_price m_offer m_gets m_yes m_buys m_ends m_carried m_row rm m_keptRow m_likeGets m_likePrice m_ahead] := jn_N (wr := [cI aC m_kind 9 kf, cI aC m_figure 9 ff, cI aC m_weight 9 wf, cI aC m_setting 5 stf, cI aC m_price 81 pf, cI aC m_offer 81 of, cI aC m_gets 90 gf, cI aC m_yes 9 yf, cI aC m_buys 9 bf, cI aC m_ends 9 ef, cI aC m_carried 9 cf, cI aC m_refused 7 mr]) hFc hk1 hP1 hD1 hP hD [0] [1, 2, 3, 4, 5, 6, 7, 8, 9, 10, 11, 12] rfl rfl (by decide) (by decide)
      have hP := hpd9.1
      have hD := hpd9.2
      clear hpd9
      generalize H1 = H at hP hS ⊢
      clear hPc hDc hFc hz1 hk1 hP1 hD1 ht hvm
      have hz_103 := hw_12
      refine lv_if_eq (tgt := 111) hx hb dX12_count_106 (by decide) (fun c_13 => ?_) (fun c_13 => ?_)
      · have hsn := sn_lt hev (ovm_n hz_103 c_13)
        refine lv_aload_n hx hb dX12_count_111 rfl (lv_at hl 0 rfl) ?_
        have hpd9 := pdf_N (cx := [oX12 g0 m_refused m_kind m_figure m_weight m_got m_setting (nI n) (nI sn) dn m_tape m_letter m_letterAt m_told tp mat stm m_kept him ki crs m_price m_offer m_gets m_yes m_buys m_ends m_carried m_row rm m_keptRow m_likeGets m_likePrice m_ahead, cI aC m_kind 9 kf, cI aC m_figure 9 ff, cI aC m_weight 9 wf, cI aC m_setting 5 stf, cI aC m_price 81 pf, cI aC m_offer 81 of, cI aC m_gets 90 gf, cI aC m_yes 9 yf, cI aC m_buys 9 bf, cI aC m_ends 9 ef, cI aC m_carried 9 cf]) hP hD hS hA [12, 0, 1, 2, 3, 4, 5, 6, 7, 8, 9, 10] (by decide) rfl
        have hPc := hpd9.1
        have hDc := hpd9.2.1
        have hFc := hpd9.2.2
        clear hpd9
        refine va_callv (va_runV (As := []) (rest := []) ⟨hx, hb, hml, hown, hts⟩ (c_X12_solvesAll l dC dI aC H.size g0 m_refused m_kind m_figure m_weight m_got m_setting m_tape m_letter m_letterAt m_told m_kept m_price m_offer m_gets m_yes m_buys m_ends m_carried m_row m_keptRow m_likeGets m_likePrice m_ahead (nI sn) dn tp mat stm him ki crs rm n kf ff wf stf pf of gf yf bf ef cf K F W0 (S5 0) (PO n K F W0 S5) (hev.1) (PO_cl hev)) ⟨(callB_of 0 hts (gG kw_896) rfl rfl rfl (hts _ (gw kw_13 rfl)) (hts _ (gw kw_893 rfl)) hd_X12_solvesAll ⟨Nat.le_of_ble_eq_true rfl, Nat.le_of_ble_eq_true rfl⟩), (hts _ (gw kw_895 rfl)), (hts _ (gw ks_45 rfl))⟩ ⟨fb_std, va_recv (q := (RX12, TX12, 33)) hK hPc (ci := 12) (q0 := 0) rfl rfl, pre_std hPc hK hDc hN⟩ rfl rfl hl.1 rfl (lv_room (Nat.le_of_ble_eq_true rfl)) dX12_count_112 ⟨Nat.le_of_ble_eq_true rfl, Nat.le_of_ble_eq_true rfl⟩) hS (fun q _ h => hFc q h) hFc (fun u9 t9 H1 locs ht hvm hw_14 hB hz1 hk1 hS => ?_)
        obtain ⟨u_15, u_16, u_17, u_18, u_19, u_20, u_21⟩ := u9
        obtain ⟨hP1, hK1, hD1⟩ := hB
        rw [ht] at hP1
        clear hK1
        try dsimp only at hw_14
        have hpd9 : PDx (dC, dI) classes A H1 [cI aC m_refused 7 mr, oX12 g0 m_refused m_kind m_figure m_weight m_got m_setting (nI n) (nI sn) dn m_tape m_letter m_letterAt m_told tp mat stm m_kept him ki crs m_price m_offer m_gets m_yes m_buys m_ends m_carried m_row rm m_keptRow m_likeGets m_likePrice m_ahead, cI aC m_kind 9 kf, cI aC m_figure 9 ff, cI aC m_weight 9 wf, cI aC m_setting 5 stf, cI aC m_price 81 u_15, cI aC m_offer 81 u_16, cI aC m_gets 90 u_17, cI aC m_yes 9 u_18, cI aC m_buys 9 u_19, cI aC m_ends 9 u_20, cI aC m_carried 9 u_21] := jn_N (wr := [cI aC m_refused 7 mr]) hFc hk1 hP1 hD1 hP hD [12, 0, 1, 2, 3, 4, 5, 6, 7, 8, 9, 10] [11] rfl rfl (by decide) (by decide)
        have hP := hpd9.1
        have hD := hpd9.2
        clear hpd9
        generalize H1 = H at hP hS ⊢
        clear hPc hDc hFc hz1 hk1 hP1 hD1 ht hvm
        have hm1 := hw_14
        refine lv_aload_n hx hb dX12_count_115 rfl (lv_at hl 0 rfl) ?_
        refine va_get (D := (dC, dI)) (ci := 12) (v := Value.ref m_ends) (C := RX12) (T := TX12) (N := 33) hx hb hts inX12 hown hK hP 1 rfl rfl 25 (by decide) (hts _ (gw kw_742 rfl)) (fun _ h9 => h9) rfl dX12_count_116 ?_
        refine lv_aload_n hx hb dX12_count_119 rfl (lv_at hl 0 rfl) ?_
        refine va_get (D := (dC, dI)) (ci := 12) (v := Value.int (nI sn)) (C := RX12) (T := TX12) (N := 33) hx hb hts inX12 hown hK hP 1 rfl rfl 7 (by decide) (hts _ (gw kw_724 rfl)) (fun _ h9 => h9) rfl dX12_count_120 ?_
        have h_22 : vp_in (nI sn) 9 := vp_in_nI (by omega) (by omega)
        refine va_iald hx hb hK hP 11 0 rfl rfl h_22 dX12_count_123 ?_
        refine lv_topi (fun x_23 e_23 => ?_)
        refine lv_aload_n hx hb dX12_count_124 rfl (lv_at hl 0 rfl) ?_
        refine va_get (D := (dC, dI)) (ci := 12) (v := Value.int (nI sn)) (C := RX12) (T := TX12) (N := 33) hx hb hts inX12 hown hK hP 1 rfl rfl 7 (by decide) (hts _ (gw kw_724 rfl)) (fun _ h9 => h9) rfl dX12_count_125 ?_
        refine lv_isub hx hb dX12_count_128 ?_
        refine lv_topi (fun x_24 e_24 => ?_)
        have hpd9 := pd_N (cx := [oX12 g0 m_refused m_kind m_figure m_weight m_got m_setting (nI n) (nI sn) dn m_tape m_letter m_letterAt m_told tp mat stm m_kept him ki crs m_price m_offer m_gets m_yes m_buys m_ends m_carried m_row rm m_keptRow m_likeGets m_likePrice m_ahead, cI aC m_kind 9 kf, cI aC m_figure 9 ff, cI aC m_weight 9 wf, cI aC m_setting 5 stf, cI aC m_price 81 u_15, cI aC m_offer 81 u_16, cI aC m_gets 90 u_17, cI aC m_yes 9 u_18, cI aC m_buys 9 u_19, cI aC m_ends 9 u_20, cI aC m_carried 9 u_21, cI aC m_refused 7 mr]) hP hD [1, 2, 3, 4, 5, 6, 7, 8, 9, 10, 11, 12, 0] (by decide) rfl
        have hP9 := hpd9.1
        have hD9 := hpd9.2
        refine W.widen (k := 0) (n := 0) (by omega) (by omega) ?_
        exact W.iret (v := x_24) hx hb hr (fun t ht hW => ⟨⟨x_24, (u_15, u_16, u_17, u_18, u_19, u_20, u_21), rfl, trivial, by rw [ht]; exact hP9, va_K.moved hW.alike hK, hD9⟩, hS.F ht⟩) hS.2.2 dX12_count_129
      · refine lv_iconst (v := 0) hx hb dX12_count_109 (by decide) ?_
        have hpd9 := pd_N (cx := [oX12 g0 m_refused m_kind m_figure m_weight m_got m_setting (nI n) (nI sn) dn m_tape m_letter m_letterAt m_told tp mat stm m_kept him ki crs m_price m_offer m_gets m_yes m_buys m_ends m_carried m_row rm m_keptRow m_likeGets m_likePrice m_ahead, cI aC m_kind 9 kf, cI aC m_figure 9 ff, cI aC m_weight 9 wf, cI aC m_setting 5 stf, cI aC m_price 81 pf, cI aC m_offer 81 of, cI aC m_gets 90 gf, cI aC m_yes 9 yf, cI aC m_buys 9 bf, cI aC m_ends 9 ef, cI aC m_carried 9 cf, cI aC m_refused 7 mr]) hP hD [12, 0, 1, 2, 3, 4, 5, 6, 7, 8, 9, 10, 11] (by decide) rfl
        have hP9 := hpd9.1
        have hD9 := hpd9.2
        refine W.widen (k := 0) (n := 0) (by omega) (by omega) ?_
        exact W.iret (v := 0) hx hb hr (fun t ht hW => ⟨⟨0, (pf, of, gf, yf, bf, ef, cf), rfl, trivial, by rw [ht]; exact hP9, va_K.moved hW.alike hK, hD9⟩, hS.F ht⟩) hS.2.2 dX12_count_110
    refine lv_tableOut (tgt := 130) hx hb dX12_count_22 (sw_out7 c_3 c_4 c_5 c_6 c_9 c_10 c_11) (by decide) ?_
    refine lv_bipush (v := -9) hx hb dX12_count_130 (by decide) ?_
    have hpd9 := pd_N (cx := [oX12 g0 m_refused m_kind m_figure m_weight m_got m_setting (nI n) (nI sn) dn m_tape m_letter m_letterAt m_told tp mat stm m_kept him ki crs m_price m_offer m_gets m_yes m_buys m_ends m_carried m_row rm m_keptRow m_likeGets m_likePrice m_ahead, cI aC m_kind 9 kf, cI aC m_figure 9 ff, cI aC m_weight 9 wf, cI aC m_setting 5 stf, cI aC m_price 81 pf, cI aC m_offer 81 of, cI aC m_gets 90 gf, cI aC m_yes 9 yf, cI aC m_buys 9 bf, cI aC m_ends 9 ef, cI aC m_carried 9 cf, cI aC m_refused 7 mr]) hP hD [0, 1, 2, 3, 4, 5, 6, 7, 8, 9, 10, 11, 12] (by decide) rfl
    have hP9 := hpd9.1
    have hD9 := hpd9.2
    refine W.widen (k := 0) (n := 0) (by omega) (by omega) ?_
    exact W.iret (v := -9) hx hb hr (fun t ht hW => ⟨⟨(-9), (pf, of, gf, yf, bf, ef, cf), rfl, trivial, by rw [ht]; exact hP9, va_K.moved hW.alike hK, hD9⟩, hS.F ht⟩) hS.2.2 dX12_count_132
  · have hi9 := isin_y hz_5 c_2
    refine lv_aload_n hx hb dX12_count_11 rfl (lv_at hl 0 rfl) ?_
    refine va_get (D := (dC, dI)) (ci := 12) (v := Value.ref m_refused) (C := RX12) (T := TX12) (N := 33) hx hb hts inX12 hown hK hP 0 rfl rfl 0 (by decide) (hts _ (gw kw_717 rfl)) (fun _ h9 => h9) rfl dX12_count_12 ?_
    refine lv_iload_n hx hb dX12_count_15 rfl (lv_at hl 1 rfl) ?_
    refine lv_bipush (v := 10) hx hb dX12_count_16 (by decide) ?_
    refine lv_isub hx hb dX12_count_18 ?_
    refine lv_topi (fun x_25 e_25 => ?_)
    have h_26 : vp_in x_25 7 := by obtain ⟨j, j1, j2⟩ := ix_of (n := 17) (by omega) (fun z => hi9.1 (Int32.lt_trans z (by decide))) (fun z => hi9.2 (Int32.lt_of_lt_of_le (by decide) z)); rw [e_25]; subst j2; have h7 : 11 ≤ j := Nat.le_of_not_lt fun z => hi9.1 (nI_lt (b := 11) z (by omega)); rw [show nI j - 10 = nI (j - 10) from pk_sub (a := j) (b := 10) (by omega)]; exact vp_in_nI (by omega) (by omega)
    refine va_iald hx hb hK hP 12 0 rfl rfl h_26 dX12_count_19 ?_
    refine lv_topi (fun x_27 e_27 => ?_)
    have hpd9 := pd_N (cx := [oX12 g0 m_refused m_kind m_figure m_weight m_got m_setting (nI n) (nI sn) dn m_tape m_letter m_letterAt m_told tp mat stm m_kept him ki crs m_price m_offer m_gets m_yes m_buys m_ends m_carried m_row rm m_keptRow m_likeGets m_likePrice m_ahead, cI aC m_kind 9 kf, cI aC m_figure 9 ff, cI aC m_weight 9 wf, cI aC m_setting 5 stf, cI aC m_price 81 pf, cI aC m_offer 81 of, cI aC m_gets 90 gf, cI aC m_yes 9 yf, cI aC m_buys 9 bf, cI aC m_ends 9 ef, cI aC m_carried 9 cf, cI aC m_refused 7 mr]) hP hD [0, 1, 2, 3, 4, 5, 6, 7, 8, 9, 10, 11, 12] (by decide) rfl
    have hP9 := hpd9.1
    have hD9 := hpd9.2
    refine W.widen (k := 0) (n := 0) (by omega) (by omega) ?_
    exact W.iret (v := x_27) hx hb hr (fun t ht hW => ⟨⟨x_27, (pf, of, gf, yf, bf, ef, cf), rfl, trivial, by rw [ht]; exact hP9, va_K.moved hW.alike hK, hD9⟩, hS.F ht⟩) hS.2.2 dX12_count_20

end

section
/-! 66.ord -/
theorem sg_y {n : Nat} {orf : Nat → Int32} {q : Nat} (h : OKI n (orf q)) : sg n orf q = (orf q).toNatClampNeg := by
  unfold sg
  rw [if_neg (fun z => z.elim h.1 h.2)]
theorem sg_n {n : Nat} {orf : Nat → Int32} {q : Nat} (h : ¬ OKI n (orf q)) : sg n orf q = q := by
  unfold sg
  by_cases h1 : orf q < 0
  · rw [if_pos (Or.inl h1)]
  · by_cases h2 : nI n ≤ orf q
    · rw [if_pos (Or.inr h2)]
    · exact absurd ⟨h1, h2⟩ h
theorem EVS_seat {n sn : Nat} {dn : Int32} {K F W S5 : Nat → Nat} {kf ff wf stf tk tf tw ts orf : Nat → Int32} (h : EVS n sn dn K F W S5 kf ff wf stf) (h1 : ∀ q, q < 8 → tk q = if q < n then kf (sg n orf q) else kf q) (h2 : ∀ q, q < 8 → tf q = if q < n then ff (sg n orf q) else ff q) (h3 : ∀ q, q < 8 → tw q = if q < n then wf (sg n orf q) else wf q) (h4 : ∀ j, j < 5 → ts j = stf j) : EVS n sn dn (fun q => K (sg n orf q)) (fun q => F (sg n orf q)) (fun q => W (sg n orf q)) S5 tk tf tw ts := by
  have hn := EVS_n h
  obtain ⟨⟨e1, e2, e3, e4⟩, f1, f2, f3, f4⟩ := h
  refine ⟨⟨e1, e2, by rw [h4 0 (by omega)]; exact e3, fun j hj => ?_⟩, fun k hk => by rw [h4 k hk]; exact f1 k hk, f2, f3, f4⟩
  rw [h1 j (by omega), h2 j (by omega), h3 j (by omega), if_pos hj, if_pos hj, if_pos hj]
  exact e4 _ (sg_lt (by omega) hj)

set_option maxHeartbeats 1000000 in
set_option maxRecDepth 100000 in
/-- X11_orderAsIs -/
theorem c_X11_orderAsIs (l : Launch) (dC : Nat → ClassId) (dI : Nat → Nat → Nat) (aC : Nat → ClassId) (sz : Nat) (h0 : Nat) (xp : Nat) (xtp : Nat) (xn : Nat) (xt : Nat) (xk : Nat) (xl : Nat) (xc : Nat) (xo : Nat) (xto : Nat) (xr : Nat) (xch : Nat) (ts : Int32) (ik : Int32) (st : Int32) (ek : Nat) (ef : Nat) (ew : Nat) (ep : Nat) (es : Nat) (n : Nat) (sn : Nat) (dn : Int32) (orf : Nat → Int32) (hn8 : n ≤ 8) : Met l yX11_orderAsIs (wW yX11_orderAsIs cX11_orderAsIs 2 (none : Option FieldType)) ({ frames := 0, cells := 0, slots := 0, locals := 0 } : Room) (va_Pc [Value.ref h0] (fun U => U.heap.size = sz ∧ va_P (dC, dI) classes [oX11 h0 xp xtp xn xt xk xl xc xo xto xr xch ts ik st, oX4 xn ek ef ew ep es (nI n) (nI sn) dn, cI aC xo 8 orf] U.heap ∧ va_K (dC, dI) classes (TY aC) U ∧ va_D (fun _ => True) [oX11 h0 xp xtp xn xt xk xl xc xo xto xr xch ts ik st, oX4 xn ek ef ew ep es (nI n) (nI sn) dn, cI aC xo 8 orf] ∧ NX U)) (va_Qv (fun (org : Nat → Int32) => ∀ q, q < n → org q = nI q) (fun (org : Nat → Int32) (t : State) => va_P (dC, dI) classes [oX11 h0 xp xtp xn xt xk xl xc xo xto xr xch ts ik st, oX4 xn ek ef ew ep es (nI n) (nI sn) dn, cI aC xo 8 org] t.heap ∧ va_K (dC, dI) classes (TY aC) t ∧ va_D (va_A [oX11 h0 xp xtp xn xt xk xl xc xo xto xr xch ts ik st, oX4 xn ek ef ew ep es (nI n) (nI sn) dn, cI aC xo 8 orf] sz) [oX11 h0 xp xtp xn xt xk xl xc xo xto xr xch ts ik st, oX4 xn ek ef ew ep es (nI n) (nI sn) dn, cI aC xo 8 org]) (va_A [oX11 h0 xp xtp xn xt xk xl xc xo xto xr xch ts ik st, oX4 xn ek ef ew ep es (nI n) (nI sn) dn, cI aC xo 8 orf] sz)) 0 0 (va_A [oX11 h0 xp xtp xn xt xk xl xc xo xto xr xch ts ik st, oX4 xn ek ef ew ep es (nI n) (nI sn) dn, cI aC xo 8 orf] sz) := by
  refine Met.ofW (cc := cX11_orderAsIs) (maxL := 2) (ret := (none : Option FieldType)) (by decide) rfl ?_
  intro p e s m args below meth c s₁ B hml hv
  obtain ⟨rfl, hsz, hP, hK, hD0, hN⟩ := hv
  have hx := B.exec
  have hb := B.bytes
  have hr := B.returns
  have hts0 := atoms_spec (ws := (wW yX11_orderAsIs cX11_orderAsIs 2 (none : Option FieldType))) B.pre
  have hts : ∀ w9 ∈ lw_G, w9.before ([Value.ref h0] : List Value).toArray s = true := fun w9 h9 => hts0 w9 (List.mem_cons_of_mem _ h9)
  have hown : s.vm.findClass RX11 = some m.cls := findClass_of_methodNamed (x := yX11_orderAsIs) B.named
  have hlocks := B.notSynchronized
  subst hsz
  have hD := hD0.self (sz := s.heap.size)
  generalize hAe : va_A [oX11 h0 xp xtp xn xt xk xl xc xo xto xr xch ts ik st, oX4 xn ek ef ew ep es (nI n) (nI sn) dn, cI aC xo 8 orf] s.heap.size = A at hD ⊢
  have hA : ∀ q : Nat, s.heap.size ≤ q → A q := fun q h => by rw [← hAe]; exact Or.inr h
  obtain ⟨H, hHe⟩ : ∃ H : Heap, H = s.heap := ⟨_, rfl⟩
  have hS : va_S A s.heap H [] := by rw [hHe]; exact va_S.rf
  have hP : va_P (dC, dI) classes [oX11 h0 xp xtp xn xt xk xl xc xo xto xr xch ts ik st, oX4 xn ek ef ew ep es (nI n) (nI sn) dn, cI aC xo 8 orf] H := by rw [hHe]; exact hP
  have hl := lv_entry ([Value.ref h0]) (n := 2) (Nat.le_of_ble_eq_true rfl)
  rw [lg_entry_eq]
  generalize (lg_sl ([Value.ref h0]) ++ List.replicate (2 - (lg_sl ([Value.ref h0])).length) Slot.unset).toArray = ls at hl ⊢
  have hl : lv_has ls 2 [(0, Value.ref h0)] := hl
  rw [← hHe]
  refine lv_iconst (v := 0) hx hb dX11_orderAsIs_0 (by decide) ?_
  refine lv_istore_n (lv' := [(1, Value.int 0), (0, Value.ref h0)]) hx hb dX11_orderAsIs_1 rfl hl (by decide) rfl (fun ls hl => ?_)
  have lp_2 : ∀ (fu : Nat) (j : Nat) (oc : Nat → Int32) (hfu : n - j < fu) (hj : j ≤ n) (hp : ∀ q, q < j → oc q = nI q) (H : Heap) (locs : List Loc) (ls : Array Slot), va_P (dC, dI) classes [oX11 h0 xp xtp xn xt xk xl xc xo xto xr xch ts ik st, oX4 xn ek ef ew ep es (nI n) (nI sn) dn, cI aC xo 8 oc] H → va_D A [oX11 h0 xp xtp xn xt xk xl xc xo xto xr xch ts ik st, oX4 xn ek ef ew ep es (nI n) (nI sn) dn, cI aC xo 8 oc] → va_S A s.heap H locs → lv_has ls 2 [(0, Value.ref h0), (1, Value.int (nI j))] → W p l e (headSpec (wW yX11_orderAsIs cX11_orderAsIs 2 (none : Option FieldType)) ({ frames := 0, cells := 0, slots := 0, locals := 0 } : Room)).room s m ([Value.ref h0] : List Value).toArray below meth c H locs 0 0 (MQ below (va_Qv (fun (org : Nat → Int32) => ∀ q, q < n → org q = nI q) (fun (org : Nat → Int32) (t : State) => va_P (dC, dI) classes [oX11 h0 xp xtp xn xt xk xl xc xo xto xr xch ts ik st, oX4 xn ek ef ew ep es (nI n) (nI sn) dn, cI aC xo 8 org] t.heap ∧ va_K (dC, dI) classes (TY aC) t ∧ va_D A [oX11 h0 xp xtp xn xt xk xl xc xo xto xr xch ts ik st, oX4 xn ek ef ew ep es (nI n) (nI sn) dn, cI aC xo 8 org]) A) ([Value.ref h0] : List Value).toArray s 0 0 A) (F0 m 2 ls []) := by
    intro fu
    induction fu with
    | zero => intro j oc hfu; exact absurd hfu (Nat.not_lt_zero _)
    | succ fu ih_2 =>
      intro j oc hfu hj hp H locs ls hP hD hS hl
      refine lv_iload_n hx hb dX11_orderAsIs_2 rfl (lv_at hl 1 rfl) ?_
      refine lv_aload_n hx hb dX11_orderAsIs_3 rfl (lv_at hl 0 rfl) ?_
      refine va_get (D := (dC, dI)) (ci := 11) (v := Value.ref xn) (C := RX11) (T := TX11) (N := 14) hx hb hts inX11 hown hK hP 0 rfl rfl 2 (by decide) (hts _ (gw kw_228 rfl)) (fun _ h9 => h9) rfl dX11_orderAsIs_4 ?_
      refine va_get (D := (dC, dI)) (ci := 4) (v := Value.int (nI n)) (C := RX4) (T := TX4) (N := 8) hx hb hts inX4 hown hK hP 1 rfl rfl 5 (by decide) (hts _ (gw kw_50 rfl)) (fun _ h9 => h9) rfl dX11_orderAsIs_7 ?_
      refine lv_icmp_ge (tgt := 26) hx hb dX11_orderAsIs_10 (by decide) (fun c_1 => ?_) (fun c_1 => ?_)
      · have hjn : j = n := by
          rcases Nat.lt_or_ge j n with q | q
          · exact absurd c_1 (nI_ge q (by omega))
          · omega
        have hpd9 := pd_N (cx := [oX11 h0 xp xtp xn xt xk xl xc xo xto xr xch ts ik st, oX4 xn ek ef ew ep es (nI n) (nI sn) dn, cI aC xo 8 oc]) hP hD [0, 1, 2] (by decide) rfl
        have hP9 := hpd9.1
        have hD9 := hpd9.2
        refine W.widen (k := 0) (n := 0) (by omega) (by omega) ?_
        exact W.vret hx hb hr (fun t ht hW => ⟨⟨(oc), rfl, fun q hq => hp q (by omega), by rw [ht]; exact hP9, va_K.moved hW.alike hK, hD9⟩, hS.F ht⟩) hS.2.2 dX11_orderAsIs_26
      · have hlt : j < n := by
          rcases Nat.lt_or_ge j n with q | q
          · exact q
          · exact absurd (nI_le q (by omega)) c_1
        refine lv_aload_n hx hb dX11_orderAsIs_13 rfl (lv_at hl 0 rfl) ?_
        refine va_get (D := (dC, dI)) (ci := 11) (v := Value.ref xo) (C := RX11) (T := TX11) (N := 14) hx hb hts inX11 hown hK hP 0 rfl rfl 7 (by decide) (hts _ (gw kw_233 rfl)) (fun _ h9 => h9) rfl dX11_orderAsIs_14 ?_
        refine lv_iload_n hx hb dX11_orderAsIs_17 rfl (lv_at hl 1 rfl) ?_
        refine lv_iload_n hx hb dX11_orderAsIs_18 rfl (lv_at hl 1 rfl) ?_
        have h_2 : vp_in (nI j) 8 := by first | exact vp_in_nI (by omega) (by omega) | (unfold vp_in; decide) | (subst_vars; first | (unfold vp_in; decide) | exact vp_in_nI (by omega) (by omega))
        refine va_iast hx hb hK hP hD hS 2 0 rfl rfl h_2 dX11_orderAsIs_19 (fun H locs hP hD hS => ?_)
        obtain ⟨f_3, e_f_3⟩ : ∃ y : Nat → Int32, y = upd oc (nI j : Int32).toNatClampNeg (nI j) := ⟨_, rfl⟩
        have hpd9 : PDx (dC, dI) classes A H [oX11 h0 xp xtp xn xt xk xl xc xo xto xr xch ts ik st, oX4 xn ek ef ew ep es (nI n) (nI sn) dn, cI aC xo 8 f_3] := by rw [e_f_3]; exact ⟨hP, hD⟩
        have hP := hpd9.1
        have hD := hpd9.2
        clear hpd9
        obtain ⟨x_4, e_4⟩ : ∃ y : Int32, y = (nI j) + 1 := ⟨_, rfl⟩
        refine lv_iinc (v := x_4) (lv' := [(1, Value.int x_4), (0, Value.ref h0)]) hx hb dX11_orderAsIs_20 hl (k := 1) rfl (by rw [e_4]; rfl) (by decide) rfl (fun ls hl => ?_)
        have h9 : x_4 = nI (j + 1) := by rw [e_4, nI_1]
        subst h9
        refine lv_goto (tgt := 2) hx hb dX11_orderAsIs_23 (by decide) ?_
        exact ih_2 (j + 1) f_3 (ms_lt hlt hfu) (by omega) (fun q hq => by rw [e_f_3, nI_clamp (by omega)]; by_cases e : q = j <;> first | (rw [e, pk_us]; done) | (rw [pk_un e]; exact hp q (by omega))) _ _ _ (hP.sub [0, 1, 2] rfl) (hD.sub [0, 1, 2] (by decide) rfl) hS (lv_sub hl [1, 0] rfl)
  exact lp_2 ((n - 0) + 1) 0 orf (Nat.lt_succ_self _) (by omega) (fun q hq => by omega) _ _ _ (hP.sub [0, 1, 2] rfl) (hD.sub [0, 1, 2] (by decide) rfl) hS (lv_sub hl [1, 0] rfl)

/-- one man at another place, the others in their order -/
def bo (m p q : Nat) : Nat := if q = p then m else if q < p then (if q < m then q else q + 1) else (if q - 1 < m then q - 1 else q)
theorem bo_lt {n m p q : Nat} (hm : m < n) (hp : p < n) (hq : q < n) : bo m p q < n := by
  unfold bo
  repeat' split
  all_goals omega
theorem bo_id {m q : Nat} : bo m m q = q := by
  unfold bo
  repeat' split
  all_goals omega
/-- the next of the others -/
def nxo (m p j : Nat) : Nat := if (if j ≤ p then j else j - 1) ≤ m then (if j ≤ p then j else j - 1) else (if j ≤ p then j else j - 1) + 1
theorem nx_b1 {m p j : Nat} (h : j ≠ p) (h2 : nxo m p j ≠ m) : nxo m p j = bo m p j := by
  unfold nxo at *
  unfold bo
  repeat' split
  all_goals (repeat' split at h2)
  all_goals omega
theorem nx_b2 {m p j : Nat} (h : j ≠ p) (h2 : nxo m p j = m) : nxo m p j + 1 = bo m p j := by
  unfold nxo at *
  unfold bo
  repeat' split
  all_goals (repeat' split at h2)
  all_goals omega
theorem nx_s {m p j : Nat} (h : j ≠ p) : bo m p j + 1 = nxo m p (j + 1) := by
  unfold nxo bo
  repeat' split
  all_goals omega
theorem nx_e {m p j : Nat} (h : j = p) : nxo m p j = nxo m p (j + 1) := by
  unfold nxo
  repeat' split
  all_goals omega
theorem nx_le {m p j : Nat} (h : j ≤ 8) : nxo m p j ≤ 9 := by
  unfold nxo
  repeat' split
  all_goals omega
theorem nx_0 {m p : Nat} : nxo m p 0 = 0 := by
  unfold nxo
  repeat' split
  all_goals omega
theorem bo_p {m p : Nat} : bo m p p = m := if_pos rfl
theorem sgb {n : Nat} {orf : Nat → Int32} {q x : Nat} (hn : n ≤ 8) (hx : x < n) (h : orf q = nI x) : sg n orf q = x := by
  rw [sg_y (by rw [h]; exact OKI_nI hn hx), h, nI_clamp (by omega)]
theorem EVS_pm {n sn : Nat} {dn : Int32} {K F W S5 : Nat → Nat} {kf ff wf stf tk tf tw ts : Nat → Int32} {s : Nat → Nat} (h : EVS n sn dn K F W S5 kf ff wf stf) (hs : ∀ q, q < n → s q < n) (h1 : ∀ q, q < n → tk q = kf (s q)) (h2 : ∀ q, q < n → tf q = ff (s q)) (h3 : ∀ q, q < n → tw q = wf (s q)) (h4 : ∀ j, j < 5 → ts j = stf j) : EVS n sn dn (fun q => K (s q)) (fun q => F (s q)) (fun q => W (s q)) S5 tk tf tw ts := by
  obtain ⟨⟨e1, e2, e3, e4⟩, f1, f2, f3, f4⟩ := h
  refine ⟨⟨e1, e2, by rw [h4 0 (by omega)]; exact e3, fun j hj => ?_⟩, fun k hk => by rw [h4 k hk]; exact f1 k hk, f2, f3, f4⟩
  rw [h1 j hj, h2 j hj, h3 j hj]
  exact e4 _ (hs j hj)

set_option maxHeartbeats 1000000 in
set_option maxRecDepth 100000 in
/-- X11_orderWith -/
theorem c_X11_orderWith (l : Launch) (dC : Nat → ClassId) (dI : Nat → Nat → Nat) (aC : Nat → ClassId) (sz : Nat) (h0 : Nat) (xp : Nat) (xtp : Nat) (xn : Nat) (xt : Nat) (xk : Nat) (xl : Nat) (xc : Nat) (xo : Nat) (xto : Nat) (xr : Nat) (xch : Nat) (ts : Int32) (ik : Int32) (st : Int32) (ek : Nat) (ef : Nat) (ew : Nat) (ep : Nat) (es : Nat) (n : Nat) (sn : Nat) (dn : Int32) (orf : Nat → Int32) (mm : Nat) (pq : Nat) (hn8 : n ≤ 8) (hmm : mm < n) (hpq : pq < n) : Met l yX11_orderWith (wW yX11_orderWith cX11_orderWith 5 (none : Option FieldType)) ({ frames := 0, cells := 0, slots := 0, locals := 0 } : Room) (va_Pc [Value.ref h0, Value.int (nI mm), Value.int (nI pq)] (fun U => U.heap.size = sz ∧ va_P (dC, dI) classes [oX11 h0 xp xtp xn xt xk xl xc xo xto xr xch ts ik st, oX4 xn ek ef ew ep es (nI n) (nI sn) dn, cI aC xo 8 orf] U.heap ∧ va_K (dC, dI) classes (TY aC) U ∧ va_D (fun _ => True) [oX11 h0 xp xtp xn xt xk xl xc xo xto xr xch ts ik st, oX4 xn ek ef ew ep es (nI n) (nI sn) dn, cI aC xo 8 orf] ∧ NX U)) (va_Qv (fun (org : Nat → Int32) => ∀ q, q < n → org q = nI (bo mm pq q)) (fun (org : Nat → Int32) (t : State) => va_P (dC, dI) classes [oX11 h0 xp xtp xn xt xk xl xc xo xto xr xch ts ik st, oX4 xn ek ef ew ep es (nI n) (nI sn) dn, cI aC xo 8 org] t.heap ∧ va_K (dC, dI) classes (TY aC) t ∧ va_D (va_A [oX11 h0 xp xtp xn xt xk xl xc xo xto xr xch ts ik st, oX4 xn ek ef ew ep es (nI n) (nI sn) dn, cI aC xo 8 orf] sz) [oX11 h0 xp xtp xn xt xk xl xc xo xto xr xch ts ik st, oX4 xn ek ef ew ep es (nI n) (nI sn) dn, cI aC xo 8 org]) (va_A [oX11 h0 xp xtp xn xt xk xl xc xo xto xr xch ts ik st, oX4 xn ek ef ew ep es (nI n) (nI sn) dn, cI aC xo 8 orf] sz)) 0 0 (va_A [oX11 h0 xp xtp xn xt xk xl xc xo xto xr xch ts ik st, oX4 xn ek ef ew ep es (nI n) (nI sn) dn, cI aC xo 8 orf] sz) := by
  refine Met.ofW (cc := cX11_orderWith) (maxL := 5) (ret := (none : Option FieldType)) (by decide) rfl ?_
  intro p e s m args below meth c s₁ B hml hv
  obtain ⟨rfl, hsz, hP, hK, hD0, hN⟩ := hv
  have hx := B.exec
  have hb := B.bytes
  have hr := B.returns
  have hts0 := atoms_spec (ws := (wW yX11_orderWith cX11_orderWith 5 (none : Option FieldType))) B.pre
  have hts : ∀ w9 ∈ lw_G, w9.before ([Value.ref h0, Value.int (nI mm), Value.int (nI pq)] : List Value).toArray s = true := fun w9 h9 => hts0 w9 (List.mem_cons_of_mem _ h9)
  have hown : s.vm.findClass RX11 = some m.cls := findClass_of_methodNamed (x := yX11_orderWith) B.named
  have hlocks := B.notSynchronized
  subst hsz
  have hD := hD0.self (sz := s.heap.size)
  generalize hAe : va_A [oX11 h0 xp xtp xn xt xk xl xc xo xto xr xch ts ik st, oX4 xn ek ef ew ep es (nI n) (nI sn) dn, cI aC xo 8 orf] s.heap.size = A at hD ⊢
  have hA : ∀ q : Nat, s.heap.size ≤ q → A q := fun q h => by rw [← hAe]; exact Or.inr h
  obtain ⟨H, hHe⟩ : ∃ H : Heap, H = s.heap := ⟨_, rfl⟩
  have hS : va_S A s.heap H [] := by rw [hHe]; exact va_S.rf
  have hP : va_P (dC, dI) classes [oX11 h0 xp xtp xn xt xk xl xc xo xto xr xch ts ik st, oX4 xn ek ef ew ep es (nI n) (nI sn) dn, cI aC xo 8 orf] H := by rw [hHe]; exact hP
  have hl := lv_entry ([Value.ref h0, Value.int (nI mm), Value.int (nI pq)]) (n := 5) (Nat.le_of_ble_eq_true rfl)
  rw [lg_entry_eq]
  generalize (lg_sl ([Value.ref h0, Value.int (nI mm), Value.int (nI pq)]) ++ List.replicate (5 - (lg_sl ([Value.ref h0, Value.int (nI mm), Value.int (nI pq)])).length) Slot.unset).toArray = ls at hl ⊢
  have hl : lv_has ls 5 [(0, Value.ref h0), (1, Value.int (nI mm)), (2, Value.int (nI pq))] := hl
  rw [← hHe]
  refine lv_iconst (v := 0) hx hb dX11_orderWith_0 (by decide) ?_
  refine lv_istore_n (lv' := [(3, Value.int 0), (0, Value.ref h0), (1, Value.int (nI mm)), (2, Value.int (nI pq))]) hx hb dX11_orderWith_1 rfl hl (by decide) rfl (fun ls hl => ?_)
  refine lv_iconst (v := 0) hx hb dX11_orderWith_2 (by decide) ?_
  refine lv_istore (lv' := [(4, Value.int 0), (3, Value.int 0), (0, Value.ref h0), (1, Value.int (nI mm)), (2, Value.int (nI pq))]) hx hb dX11_orderWith_3 hl (by decide) rfl (fun ls hl => ?_)
  have hl : lv_has ls 5 [(4, Value.int 0), (3, Value.int (nI (nxo mm pq 0))), (0, Value.ref h0), (1, Value.int (nI mm)), (2, Value.int (nI pq))] := by rw [← (show (0 : Int32) = nI (nxo mm pq 0) by rw [nx_0]; rfl)]; exact hl
  have lp_5 : ∀ (fu : Nat) (j : Nat) (oc : Nat → Int32) (hfu : n - j < fu) (hj : j ≤ n) (hp : ∀ q, q < j → oc q = nI (bo mm pq q)) (H : Heap) (locs : List Loc) (ls : Array Slot), va_P (dC, dI) classes [oX11 h0 xp xtp xn xt xk xl xc xo xto xr xch ts ik st, oX4 xn ek ef ew ep es (nI n) (nI sn) dn, cI aC xo 8 oc] H → va_D A [oX11 h0 xp xtp xn xt xk xl xc xo xto xr xch ts ik st, oX4 xn ek ef ew ep es (nI n) (nI sn) dn, cI aC xo 8 oc] → va_S A s.heap H locs → lv_has ls 5 [(0, Value.ref h0), (1, Value.int (nI mm)), (2, Value.int (nI pq)), (3, Value.int (nI (nxo mm pq j))), (4, Value.int (nI j))] → W p l e (headSpec (wW yX11_orderWith cX11_orderWith 5 (none : Option FieldType)) ({ frames := 0, cells := 0, slots := 0, locals := 0 } : Room)).room s m ([Value.ref h0, Value.int (nI mm), Value.int (nI pq)] : List Value).toArray below meth c H locs 0 0 (MQ below (va_Qv (fun (org : Nat → Int32) => ∀ q, q < n → org q = nI (bo mm pq q)) (fun (org : Nat → Int32) (t : State) => va_P (dC, dI) classes [oX11 h0 xp xtp xn xt xk xl xc xo xto xr xch ts ik st, oX4 xn ek ef ew ep es (nI n) (nI sn) dn, cI aC xo 8 org] t.heap ∧ va_K (dC, dI) classes (TY aC) t ∧ va_D A [oX11 h0 xp xtp xn xt xk xl xc xo xto xr xch ts ik st, oX4 xn ek ef ew ep es (nI n) (nI sn) dn, cI aC xo 8 org]) A) ([Value.ref h0, Value.int (nI mm), Value.int (nI pq)] : List Value).toArray s 0 0 A) (F0 m 5 ls []) := by
    intro fu
    induction fu with
    | zero => intro j oc hfu; exact absurd hfu (Nat.not_lt_zero _)
    | succ fu ih_5 =>
      intro j oc hfu hj hp H locs ls hP hD hS hl
      refine lv_iload hx hb dX11_orderWith_5 (lv_at hl 4 rfl) ?_
      refine lv_aload_n hx hb dX11_orderWith_7 rfl (lv_at hl 0 rfl) ?_
      refine va_get (D := (dC, dI)) (ci := 11) (v := Value.ref xn) (C := RX11) (T := TX11) (N := 14) hx hb hts inX11 hown hK hP 0 rfl rfl 2 (by decide) (hts _ (gw kw_228 rfl)) (fun _ h9 => h9) rfl dX11_orderWith_8 ?_
      refine va_get (D := (dC, dI)) (ci := 4) (v := Value.int (nI n)) (C := RX4) (T := TX4) (N := 8) hx hb hts inX4 hown hK hP 1 rfl rfl 5 (by decide) (hts _ (gw kw_50 rfl)) (fun _ h9 => h9) rfl dX11_orderWith_11 ?_
      refine lv_icmp_ge (tgt := 59) hx hb dX11_orderWith_14 (by decide) (fun c_1 => ?_) (fun c_1 => ?_)
      · have hjn : j = n := by
          rcases Nat.lt_or_ge j n with q | q
          · exact absurd c_1 (nI_ge q (by omega))
          · omega
        have hpd9 := pd_N (cx := [oX11 h0 xp xtp xn xt xk xl xc xo xto xr xch ts ik st, oX4 xn ek ef ew ep es (nI n) (nI sn) dn, cI aC xo 8 oc]) hP hD [0, 1, 2] (by decide) rfl
        have hP9 := hpd9.1
        have hD9 := hpd9.2
        refine W.widen (k := 0) (n := 0) (by omega) (by omega) ?_
        exact W.vret hx hb hr (fun t ht hW => ⟨⟨(oc), rfl, fun q hq => hp q (by omega), by rw [ht]; exact hP9, va_K.moved hW.alike hK, hD9⟩, hS.F ht⟩) hS.2.2 dX11_orderWith_59
      · have hlt : j < n := by
          rcases Nat.lt_or_ge j n with q | q
          · exact q
          · exact absurd (nI_le q (by omega)) c_1
        have hnx := nx_le (m := mm) (p := pq) (j := j) (by omega)
        refine lv_iload hx hb dX11_orderWith_17 (lv_at hl 4 rfl) ?_
        refine lv_iload_n hx hb dX11_orderWith_19 rfl (lv_at hl 2 rfl) ?_
        refine lv_icmp_ne (tgt := 34) hx hb dX11_orderWith_20 (by decide) (fun c_2 => ?_) (fun c_2 => ?_)
        · refine lv_iload_n hx hb dX11_orderWith_34 rfl (lv_at hl 3 rfl) ?_
          refine lv_iload_n hx hb dX11_orderWith_35 rfl (lv_at hl 1 rfl) ?_
          refine lv_icmp_ne (tgt := 42) hx hb dX11_orderWith_36 (by decide) (fun c_3 => ?_) (fun c_3 => ?_)
          · have hne : j ≠ pq := fun e9 => c_2 (by rw [e9])
            have hl : lv_has ls 5 [(0, Value.ref h0), (1, Value.int (nI mm)), (2, Value.int (nI pq)), (3, Value.int (nI (bo mm pq j))), (4, Value.int (nI j))] := by rw [← (show nI (nxo mm pq j) = nI (bo mm pq j) by rw [nx_b1 hne (fun e9 => c_3 (by rw [e9]))])]; exact hl
            refine lv_aload_n hx hb dX11_orderWith_42 rfl (lv_at hl 0 rfl) ?_
            refine va_get (D := (dC, dI)) (ci := 11) (v := Value.ref xo) (C := RX11) (T := TX11) (N := 14) hx hb hts inX11 hown hK hP 0 rfl rfl 7 (by decide) (hts _ (gw kw_233 rfl)) (fun _ h9 => h9) rfl dX11_orderWith_43 ?_
            refine lv_iload hx hb dX11_orderWith_46 (lv_at hl 4 rfl) ?_
            refine lv_iload_n hx hb dX11_orderWith_48 rfl (lv_at hl 3 rfl) ?_
            have h_4 : vp_in (nI j) 8 := vp_in_nI (by omega) (by omega)
            refine va_iast hx hb hK hP hD hS 2 0 rfl rfl h_4 dX11_orderWith_49 (fun H locs hP hD hS => ?_)
            obtain ⟨f_5, e_f_5⟩ : ∃ y : Nat → Int32, y = upd oc (nI j : Int32).toNatClampNeg (nI (bo mm pq j)) := ⟨_, rfl⟩
            have hpd9 : PDx (dC, dI) classes A H [oX11 h0 xp xtp xn xt xk xl xc xo xto xr xch ts ik st, oX4 xn ek ef ew ep es (nI n) (nI sn) dn, cI aC xo 8 f_5] := by rw [e_f_5]; exact ⟨hP, hD⟩
            have hP := hpd9.1
            have hD := hpd9.2
            clear hpd9
            obtain ⟨x_6, e_6⟩ : ∃ y : Int32, y = (nI (bo mm pq j)) + 1 := ⟨_, rfl⟩
            refine lv_iinc (v := x_6) (lv' := [(3, Value.int x_6), (0, Value.ref h0), (1, Value.int (nI mm)), (2, Value.int (nI pq)), (4, Value.int (nI j))]) hx hb dX11_orderWith_50 hl (k := 3) rfl (by rw [e_6]; rfl) (by decide) rfl (fun ls hl => ?_)
            have h9 : x_6 = nI (nxo mm pq (j + 1)) := by rw [e_6, nI_1, nx_s hne]
            subst h9
            have hp2 : ∀ q, q < j + 1 → f_5 q = nI (bo mm pq q) := fun q hq => by
              rw [e_f_5, nI_clamp (by omega)]
              by_cases e9 : q = j
              · rw [e9, pk_us]
              · rw [pk_un e9]; exact hp q (by omega)
            obtain ⟨x_7, e_7⟩ : ∃ y : Int32, y = (nI j) + 1 := ⟨_, rfl⟩
            refine lv_iinc (v := x_7) (lv' := [(4, Value.int x_7), (3, Value.int (nI (nxo mm pq (j + 1)))), (0, Value.ref h0), (1, Value.int (nI mm)), (2, Value.int (nI pq))]) hx hb dX11_orderWith_53 hl (k := 4) rfl (by rw [e_7]; rfl) (by decide) rfl (fun ls hl => ?_)
            have h9 : x_7 = nI (j + 1) := by rw [e_7, nI_1]
            subst h9
            refine lv_goto (tgt := 5) hx hb dX11_orderWith_56 (by decide) ?_
            exact ih_5 (j + 1) f_5 (ms_lt hlt hfu) (by omega) (hp2) _ _ _ (hP.sub [0, 1, 2] rfl) (hD.sub [0, 1, 2] (by decide) rfl) hS (lv_sub hl [2, 3, 4, 1, 0] rfl)
          · obtain ⟨x_8, e_8⟩ : ∃ y : Int32, y = (nI (nxo mm pq j)) + 1 := ⟨_, rfl⟩
            refine lv_iinc (v := x_8) (lv' := [(3, Value.int x_8), (0, Value.ref h0), (1, Value.int (nI mm)), (2, Value.int (nI pq)), (4, Value.int (nI j))]) hx hb dX11_orderWith_39 hl (k := 3) rfl (by rw [e_8]; rfl) (by decide) rfl (fun ls hl => ?_)
            have hne : j ≠ pq := fun e9 => c_2 (by rw [e9])
            have h9 : x_8 = nI (bo mm pq j) := by rw [e_8, nI_1, nx_b2 hne ((nI_eq (by omega) (by omega)).mp c_3)]
            subst h9
            refine lv_aload_n hx hb dX11_orderWith_42 rfl (lv_at hl 1 rfl) ?_
            refine va_get (D := (dC, dI)) (ci := 11) (v := Value.ref xo) (C := RX11) (T := TX11) (N := 14) hx hb hts inX11 hown hK hP 0 rfl rfl 7 (by decide) (hts _ (gw kw_233 rfl)) (fun _ h9 => h9) rfl dX11_orderWith_43 ?_
            refine lv_iload hx hb dX11_orderWith_46 (lv_at hl 4 rfl) ?_
            refine lv_iload_n hx hb dX11_orderWith_48 rfl (lv_at hl 0 rfl) ?_
            have h_9 : vp_in (nI j) 8 := vp_in_nI (by omega) (by omega)
            refine va_iast hx hb hK hP hD hS 2 0 rfl rfl h_9 dX11_orderWith_49 (fun H locs hP hD hS => ?_)
            obtain ⟨f_10, e_f_10⟩ : ∃ y : Nat → Int32, y = upd oc (nI j : Int32).toNatClampNeg (nI (bo mm pq j)) := ⟨_, rfl⟩
            have hpd9 : PDx (dC, dI) classes A H [oX11 h0 xp xtp xn xt xk xl xc xo xto xr xch ts ik st, oX4 xn ek ef ew ep es (nI n) (nI sn) dn, cI aC xo 8 f_10] := by rw [e_f_10]; exact ⟨hP, hD⟩
            have hP := hpd9.1
            have hD := hpd9.2
            clear hpd9
            obtain ⟨x_11, e_11⟩ : ∃ y : Int32, y = (nI (bo mm pq j)) + 1 := ⟨_, rfl⟩
            refine lv_iinc (v := x_11) (lv' := [(3, Value.int x_11), (0, Value.ref h0), (1, Value.int (nI mm)), (2, Value.int (nI pq)), (4, Value.int (nI j))]) hx hb dX11_orderWith_50 hl (k := 0) rfl (by rw [e_11]; rfl) (by decide) rfl (fun ls hl => ?_)
            have h9 : x_11 = nI (nxo mm pq (j + 1)) := by rw [e_11, nI_1, nx_s hne]
            subst h9
            have hp2 : ∀ q, q < j + 1 → f_10 q = nI (bo mm pq q) := fun q hq => by
              rw [e_f_10, nI_clamp (by omega)]
              by_cases e9 : q = j
              · rw [e9, pk_us]
              · rw [pk_un e9]; exact hp q (by omega)
            obtain ⟨x_12, e_12⟩ : ∃ y : Int32, y = (nI j) + 1 := ⟨_, rfl⟩
            refine lv_iinc (v := x_12) (lv' := [(4, Value.int x_12), (3, Value.int (nI (nxo mm pq (j + 1)))), (0, Value.ref h0), (1, Value.int (nI mm)), (2, Value.int (nI pq))]) hx hb dX11_orderWith_53 hl (k := 4) rfl (by rw [e_12]; rfl) (by decide) rfl (fun ls hl => ?_)
            have h9 : x_12 = nI (j + 1) := by rw [e_12, nI_1]
            subst h9
            refine lv_goto (tgt := 5) hx hb dX11_orderWith_56 (by decide) ?_
            exact ih_5 (j + 1) f_10 (ms_lt hlt hfu) (by omega) (hp2) _ _ _ (hP.sub [0, 1, 2] rfl) (hD.sub [0, 1, 2] (by decide) rfl) hS (lv_sub hl [2, 3, 4, 1, 0] rfl)
        · refine lv_aload_n hx hb dX11_orderWith_23 rfl (lv_at hl 0 rfl) ?_
          refine va_get (D := (dC, dI)) (ci := 11) (v := Value.ref xo) (C := RX11) (T := TX11) (N := 14) hx hb hts inX11 hown hK hP 0 rfl rfl 7 (by decide) (hts _ (gw kw_233 rfl)) (fun _ h9 => h9) rfl dX11_orderWith_24 ?_
          refine lv_iload hx hb dX11_orderWith_27 (lv_at hl 4 rfl) ?_
          refine lv_iload_n hx hb dX11_orderWith_29 rfl (lv_at hl 1 rfl) ?_
          have h_13 : vp_in (nI j) 8 := vp_in_nI (by omega) (by omega)
          refine va_iast hx hb hK hP hD hS 2 0 rfl rfl h_13 dX11_orderWith_30 (fun H locs hP hD hS => ?_)
          obtain ⟨f_14, e_f_14⟩ : ∃ y : Nat → Int32, y = upd oc (nI j : Int32).toNatClampNeg (nI mm) := ⟨_, rfl⟩
          have hpd9 : PDx (dC, dI) classes A H [oX11 h0 xp xtp xn xt xk xl xc xo xto xr xch ts ik st, oX4 xn ek ef ew ep es (nI n) (nI sn) dn, cI aC xo 8 f_14] := by rw [e_f_14]; exact ⟨hP, hD⟩
          have hP := hpd9.1
          have hD := hpd9.2
          clear hpd9
          refine lv_goto (tgt := 53) hx hb dX11_orderWith_31 (by decide) ?_
          have hje : j = pq := (nI_eq (by omega) (by omega)).mp c_2
          have hl : lv_has ls 5 [(0, Value.ref h0), (1, Value.int (nI mm)), (2, Value.int (nI pq)), (3, Value.int (nI (nxo mm pq (j + 1)))), (4, Value.int (nI j))] := by rw [← (show nI (nxo mm pq j) = nI (nxo mm pq (j + 1)) by rw [nx_e hje])]; exact hl
          have hp2 : ∀ q, q < j + 1 → f_14 q = nI (bo mm pq q) := fun q hq => by
            rw [e_f_14, nI_clamp (by omega)]
            by_cases e9 : q = j
            · rw [e9, pk_us, hje, bo_p]
            · rw [pk_un e9]; exact hp q (by omega)
          obtain ⟨x_15, e_15⟩ : ∃ y : Int32, y = (nI j) + 1 := ⟨_, rfl⟩
          refine lv_iinc (v := x_15) (lv' := [(4, Value.int x_15), (0, Value.ref h0), (1, Value.int (nI mm)), (2, Value.int (nI pq)), (3, Value.int (nI (nxo mm pq (j + 1))))]) hx hb dX11_orderWith_53 hl (k := 4) rfl (by rw [e_15]; rfl) (by decide) rfl (fun ls hl => ?_)
          have h9 : x_15 = nI (j + 1) := by rw [e_15, nI_1]
          subst h9
          refine lv_goto (tgt := 5) hx hb dX11_orderWith_56 (by decide) ?_
          exact ih_5 (j + 1) f_14 (ms_lt hlt hfu) (by omega) (hp2) _ _ _ (hP.sub [0, 1, 2] rfl) (hD.sub [0, 1, 2] (by decide) rfl) hS (lv_sub hl [1, 2, 3, 4, 0] rfl)
  exact lp_5 ((n - 0) + 1) 0 orf (Nat.lt_succ_self _) (by omega) (fun q hq => by omega) _ _ _ (hP.sub [0, 1, 2] rfl) (hD.sub [0, 1, 2] (by decide) rfl) hS (lv_sub hl [2, 3, 4, 1, 0] rfl)

set_option maxHeartbeats 1000000 in
set_option maxRecDepth 100000 in
/-- X11_seat -/
theorem c_X11_seat (l : Launch) (dC : Nat → ClassId) (dI : Nat → Nat → Nat) (aC : Nat → ClassId) (sz : Nat) (h0 : Nat) (xp : Nat) (xtp : Nat) (xn : Nat) (xt : Nat) (xk : Nat) (xl : Nat) (xc : Nat) (xo : Nat) (xto : Nat) (xr : Nat) (xch : Nat) (ts : Int32) (ik : Int32) (st : Int32) (ek : Nat) (ef : Nat) (ew : Nat) (ep : Nat) (es : Nat) (n : Nat) (sn : Nat) (dn : Int32) (kf : Nat → Int32) (ff : Nat → Int32) (wf : Nat → Int32) (pf : Nat → Int32) (stf : Nat → Int32) (tek : Nat) (tef : Nat) (tew : Nat) (tep : Nat) (tes : Nat) (tsz : Int32) (tsy : Int32) (tdn : Int32) (tkf : Nat → Int32) (tff : Nat → Int32) (twf : Nat → Int32) (tpf : Nat → Int32) (tsf : Nat → Int32) (orf : Nat → Int32) (tG : Nat) (hn8 : n ≤ 8) (hdn : dn = 0 ∨ dn = 1) : Met l yX11_seat (wW yX11_seat cX11_seat 3 (none : Option FieldType)) ({ frames := 2, cells := 0, slots := 0, locals := 61 } : Room) (va_Pc [Value.ref h0] (fun U => U.heap.size = sz ∧ va_P (dC, dI) classes [oX11 h0 xp xtp xn xt xk xl xc xo xto xr xch ts ik st, oX4 xn ek ef ew ep es (nI n) (nI sn) dn, cI aC ek 8 kf, cI aC ef 8 ff, cI aC ew 8 wf, cI aC ep 8 pf, cI aC es 5 stf, oX4 xt tek tef tew tep tes tsz tsy tdn, cI aC tek 8 tkf, cI aC tef 8 tff, cI aC tew 8 twf, cI aC tep 8 tpf, cI aC tes 5 tsf, cI aC xo 8 orf] U.heap ∧ va_K (dC, dI) classes (TY aC) U ∧ va_D (fun _ => True) [oX11 h0 xp xtp xn xt xk xl xc xo xto xr xch ts ik st, oX4 xn ek ef ew ep es (nI n) (nI sn) dn, cI aC ek 8 kf, cI aC ef 8 ff, cI aC ew 8 wf, cI aC ep 8 pf, cI aC es 5 stf, oX4 xt tek tef tew tep tes tsz tsy tdn, cI aC tek 8 tkf, cI aC tef 8 tff, cI aC tew 8 twf, cI aC tep 8 tpf, cI aC tes 5 tsf, cI aC xo 8 orf] ∧ NX U ∧ va_Z "EldestSays" "GREATEST" "[I" (.ref tG) (va_A [oX11 h0 xp xtp xn xt xk xl xc xo xto xr xch ts ik st, oX4 xn ek ef ew ep es (nI n) (nI sn) dn, cI aC ek 8 kf, cI aC ef 8 ff, cI aC ew 8 wf, cI aC ep 8 pf, cI aC es 5 stf, oX4 xt tek tef tew tep tes tsz tsy tdn, cI aC tek 8 tkf, cI aC tef 8 tff, cI aC tew 8 twf, cI aC tep 8 tpf, cI aC tes 5 tsf, cI aC xo 8 orf] sz) U U.heap ∧ va_T .int tG 5 (fun j => .int (GV j)) (va_A [oX11 h0 xp xtp xn xt xk xl xc xo xto xr xch ts ik st, oX4 xn ek ef ew ep es (nI n) (nI sn) dn, cI aC ek 8 kf, cI aC ef 8 ff, cI aC ew 8 wf, cI aC ep 8 pf, cI aC es 5 stf, oX4 xt tek tef tew tep tes tsz tsy tdn, cI aC tek 8 tkf, cI aC tef 8 tff, cI aC tew 8 twf, cI aC tep 8 tpf, cI aC tes 5 tsf, cI aC xo 8 orf] sz) U U.heap)) (va_Qv (fun (u : (Nat → Int32) × (Nat → Int32) × (Nat → Int32) × (Nat → Int32) × (Nat → Int32)) => match u with | (tkf2, tff2, twf2, tpf2, tsf2) => (∀ q, q < 8 → tkf2 q = if q < n then kf (sg n orf q) else kf q) ∧ (∀ q, q < 8 → tff2 q = if q < n then ff (sg n orf q) else ff q) ∧ (∀ q, q < 8 → twf2 q = if q < n then wf (sg n orf q) else wf q) ∧ (∀ j, j < 8 → tpf2 j = pf j) ∧ (∀ j, j < 5 → tsf2 j = stf j)) (fun (u : (Nat → Int32) × (Nat → Int32) × (Nat → Int32) × (Nat → Int32) × (Nat → Int32)) (t : State) => match u with | (tkf2, tff2, twf2, tpf2, tsf2) => va_P (dC, dI) classes [oX11 h0 xp xtp xn xt xk xl xc xo xto xr xch ts ik st, oX4 xn ek ef ew ep es (nI n) (nI sn) dn, cI aC ek 8 kf, cI aC ef 8 ff, cI aC ew 8 wf, cI aC ep 8 pf, cI aC es 5 stf, oX4 xt tek tef tew tep tes (nI n) (nI sn) dn, cI aC tek 8 tkf2, cI aC tef 8 tff2, cI aC tew 8 twf2, cI aC tep 8 tpf2, cI aC tes 5 tsf2, cI aC xo 8 orf] t.heap ∧ va_K (dC, dI) classes (TY aC) t ∧ va_D (va_A [oX11 h0 xp xtp xn xt xk xl xc xo xto xr xch ts ik st, oX4 xn ek ef ew ep es (nI n) (nI sn) dn, cI aC ek 8 kf, cI aC ef 8 ff, cI aC ew 8 wf, cI aC ep 8 pf, cI aC es 5 stf, oX4 xt tek tef tew tep tes tsz tsy tdn, cI aC tek 8 tkf, cI aC tef 8 tff, cI aC tew 8 twf, cI aC tep 8 tpf, cI aC tes 5 tsf, cI aC xo 8 orf] sz) [oX11 h0 xp xtp xn xt xk xl xc xo xto xr xch ts ik st, oX4 xn ek ef ew ep es (nI n) (nI sn) dn, cI aC ek 8 kf, cI aC ef 8 ff, cI aC ew 8 wf, cI aC ep 8 pf, cI aC es 5 stf, oX4 xt tek tef tew tep tes (nI n) (nI sn) dn, cI aC tek 8 tkf2, cI aC tef 8 tff2, cI aC tew 8 twf2, cI aC tep 8 tpf2, cI aC tes 5 tsf2, cI aC xo 8 orf]) (va_A [oX11 h0 xp xtp xn xt xk xl xc xo xto xr xch ts ik st, oX4 xn ek ef ew ep es (nI n) (nI sn) dn, cI aC ek 8 kf, cI aC ef 8 ff, cI aC ew 8 wf, cI aC ep 8 pf, cI aC es 5 stf, oX4 xt tek tef tew tep tes tsz tsy tdn, cI aC tek 8 tkf, cI aC tef 8 tff, cI aC tew 8 twf, cI aC tep 8 tpf, cI aC tes 5 tsf, cI aC xo 8 orf] sz)) 0 0 (va_A [oX11 h0 xp xtp xn xt xk xl xc xo xto xr xch ts ik st, oX4 xn ek ef ew ep es (nI n) (nI sn) dn, cI aC ek 8 kf, cI aC ef 8 ff, cI aC ew 8 wf, cI aC ep 8 pf, cI aC es 5 stf, oX4 xt tek tef tew tep tes tsz tsy tdn, cI aC tek 8 tkf, cI aC tef 8 tff, cI aC tew 8 twf, cI aC tep 8 tpf, cI aC tes 5 tsf, cI aC xo 8 orf] sz) := by
  refine Met.ofW (cc := cX11_seat) (maxL := 3) (ret := (none : Option FieldType)) (by decide) rfl ?_
  intro p e s m args below meth c s₁ B hml hv
  obtain ⟨rfl, hsz, hP, hK, hD0, hN, hZG, hTG⟩ := hv
  have hx := B.exec
  have hb := B.bytes
  have hr := B.returns
  have hts0 := atoms_spec (ws := (wW yX11_seat cX11_seat 3 (none : Option FieldType))) B.pre
  have hts : ∀ w9 ∈ lw_G, w9.before ([Value.ref h0] : List Value).toArray s = true := fun w9 h9 => hts0 w9 (List.mem_cons_of_mem _ h9)
  have hown : s.vm.findClass RX11 = some m.cls := findClass_of_methodNamed (x := yX11_seat) B.named
  have hlocks := B.notSynchronized
  subst hsz
  have hD := hD0.self (sz := s.heap.size)
  generalize hAe : va_A [oX11 h0 xp xtp xn xt xk xl xc xo xto xr xch ts ik st, oX4 xn ek ef ew ep es (nI n) (nI sn) dn, cI aC ek 8 kf, cI aC ef 8 ff, cI aC ew 8 wf, cI aC ep 8 pf, cI aC es 5 stf, oX4 xt tek tef tew tep tes tsz tsy tdn, cI aC tek 8 tkf, cI aC tef 8 tff, cI aC tew 8 twf, cI aC tep 8 tpf, cI aC tes 5 tsf, cI aC xo 8 orf] s.heap.size = A at hZG hTG hD ⊢
  have hA : ∀ q : Nat, s.heap.size ≤ q → A q := fun q h => by rw [← hAe]; exact Or.inr h
  obtain ⟨H, hHe⟩ : ∃ H : Heap, H = s.heap := ⟨_, rfl⟩
  have hS : va_S A s.heap H [] := by rw [hHe]; exact va_S.rf
  have hP : va_P (dC, dI) classes [oX11 h0 xp xtp xn xt xk xl xc xo xto xr xch ts ik st, oX4 xn ek ef ew ep es (nI n) (nI sn) dn, cI aC ek 8 kf, cI aC ef 8 ff, cI aC ew 8 wf, cI aC ep 8 pf, cI aC es 5 stf, oX4 xt tek tef tew tep tes tsz tsy tdn, cI aC tek 8 tkf, cI aC tef 8 tff, cI aC tew 8 twf, cI aC tep 8 tpf, cI aC tes 5 tsf, cI aC xo 8 orf] H := by rw [hHe]; exact hP
  have hl := lv_entry ([Value.ref h0]) (n := 3) (Nat.le_of_ble_eq_true rfl)
  rw [lg_entry_eq]
  generalize (lg_sl ([Value.ref h0]) ++ List.replicate (3 - (lg_sl ([Value.ref h0])).length) Slot.unset).toArray = ls at hl ⊢
  have hl : lv_has ls 3 [(0, Value.ref h0)] := hl
  rw [← hHe]
  refine lv_aload_n hx hb dX11_seat_0 rfl (lv_at hl 0 rfl) ?_
  refine va_get (D := (dC, dI)) (ci := 11) (v := Value.ref xt) (C := RX11) (T := TX11) (N := 14) hx hb hts inX11 hown hK hP 0 rfl rfl 3 (by decide) (hts _ (gw kw_229 rfl)) (fun _ h9 => h9) rfl dX11_seat_1 ?_
  refine lv_aload_n hx hb dX11_seat_4 rfl (lv_at hl 0 rfl) ?_
  refine va_get (D := (dC, dI)) (ci := 11) (v := Value.ref xn) (C := RX11) (T := TX11) (N := 14) hx hb hts inX11 hown hK hP 0 rfl rfl 2 (by decide) (hts _ (gw kw_228 rfl)) (fun _ h9 => h9) rfl dX11_seat_5 ?_
  have hpd9 := pdf_N (cx := [oX4 xt tek tef tew tep tes tsz tsy tdn, cI aC tek 8 tkf, cI aC tef 8 tff, cI aC tew 8 twf, cI aC tep 8 tpf, cI aC tes 5 tsf, oX4 xn ek ef ew ep es (nI n) (nI sn) dn, cI aC ek 8 kf, cI aC ef 8 ff, cI aC ew 8 wf, cI aC ep 8 pf, cI aC es 5 stf]) hP hD hS hA [7, 8, 9, 10, 11, 12, 1, 2, 3, 4, 5, 6] (by decide) rfl
  have hPc := hpd9.1
  have hDc := hpd9.2.1
  have hFc := hpd9.2.2
  clear hpd9
  refine va_callv (va_runV (As := [Value.ref xn]) (rest := []) ⟨hx, hb, hml, hown, hts⟩ (c_X4_copy l dC dI aC H.size xt xn tek tef tew tep tes ek ef ew ep es tsz tsy tdn (nI n) (nI sn) dn tkf tff twf tpf tsf kf ff wf pf stf tG (hdn)) ⟨(callB_of 1 hts (gG kw_598) rfl rfl rfl (hts _ (gw kw_2 rfl)) (hts _ (gw kw_595 rfl)) hd_X4_copy ⟨Nat.le_of_ble_eq_true rfl, Nat.le_of_ble_eq_true rfl⟩), (hts _ (gw kw_596 rfl)), (hts _ (gw kw_597 rfl))⟩ ⟨fun a U g mk q => by obtain ⟨q0, q1, qP, qK, qD, qN, z0, z1⟩ := q; exact ⟨q0, q1, qP, va_K.moved (u := U) (U := U.calling g mk a) (Vm.Alike.refl U.vm) qK, qD, NX.same (u := U) (U := U.calling g mk a) rfl qN, va_Z.moved (u := U) (U := U.calling g mk a) (Vm.Alike.refl U.vm) z0, va_T.moved (u := U) (U := U.calling g mk a) (Vm.Alike.refl U.vm) z1⟩, va_recv (q := (RX4, TX4, 8)) hK hPc (ci := 4) (q0 := 0) rfl rfl, fun U hU hW => ⟨rfl, by rw [hU], by rw [hU]; exact hPc, va_K.moved hW.alike hK, hDc.weaken (fun _ _ _ _ => trivial), NX.warm hW hN, by rw [hU]; exact va_Z.moved hW.alike (va_Z.narrow (va_Z.kept hZG hS.2.1) hFc), by rw [hU]; exact va_T.moved hW.alike (va_T.narrow (va_T.kept hTG hS.2.1) hFc)⟩⟩ rfl rfl hl.1 rfl (lv_room (Nat.le_of_ble_eq_true rfl)) dX11_seat_8 ⟨Nat.le_of_ble_eq_true rfl, Nat.le_of_ble_eq_true rfl⟩) hS (fun q _ h => hFc q h) hFc (fun u9 t9 H1 locs ht hvm hw_1 hB hz1 hk1 hS => ?_)
  obtain ⟨u_2, u_3, u_4, u_5, u_6⟩ := u9
  obtain ⟨hP1, hK1, hD1⟩ := hB
  rw [ht] at hP1
  clear hK1
  try dsimp only at hw_1
  have hpd9 : PDx (dC, dI) classes A H1 [oX11 h0 xp xtp xn xt xk xl xc xo xto xr xch ts ik st, cI aC xo 8 orf, oX4 xt tek tef tew tep tes (nI n) (nI sn) dn, cI aC tek 8 u_2, cI aC tef 8 u_3, cI aC tew 8 u_4, cI aC tep 8 u_5, cI aC tes 5 u_6, oX4 xn ek ef ew ep es (nI n) (nI sn) dn, cI aC ek 8 kf, cI aC ef 8 ff, cI aC ew 8 wf, cI aC ep 8 pf, cI aC es 5 stf] := jn_N (wr := [oX11 h0 xp xtp xn xt xk xl xc xo xto xr xch ts ik st, cI aC xo 8 orf]) hFc hk1 hP1 hD1 hP hD [7, 8, 9, 10, 11, 12, 1, 2, 3, 4, 5, 6] [0, 13] rfl rfl (by decide) (by decide)
  have hP := hpd9.1
  have hD := hpd9.2
  clear hpd9
  generalize H1 = H at hP hS ⊢
  clear hPc hDc hFc hz1 hk1 hP1 hD1 ht hvm
  have hc9 := hw_1
  refine lv_iconst (v := 0) hx hb dX11_seat_11 (by decide) ?_
  refine lv_istore_n (lv' := [(1, Value.int 0), (0, Value.ref h0)]) hx hb dX11_seat_12 rfl hl (by decide) rfl (fun ls hl => ?_)
  have lp_13 : ∀ (fu : Nat) (j : Nat) (tkc : Nat → Int32) (tfc : Nat → Int32) (twc : Nat → Int32) (hfu : n - j < fu) (hj : j ≤ n) (hk0 : ∀ q, q < 8 → tkc q = if q < j then kf (sg n orf q) else kf q) (hk1 : ∀ q, q < 8 → tfc q = if q < j then ff (sg n orf q) else ff q) (hk2 : ∀ q, q < 8 → twc q = if q < j then wf (sg n orf q) else wf q) (H : Heap) (locs : List Loc) (ls : Array Slot), va_P (dC, dI) classes [oX11 h0 xp xtp xn xt xk xl xc xo xto xr xch ts ik st, cI aC xo 8 orf, oX4 xt tek tef tew tep tes (nI n) (nI sn) dn, cI aC tek 8 tkc, cI aC tef 8 tfc, cI aC tew 8 twc, cI aC tep 8 u_5, cI aC tes 5 u_6, oX4 xn ek ef ew ep es (nI n) (nI sn) dn, cI aC ek 8 kf, cI aC ef 8 ff, cI aC ew 8 wf, cI aC ep 8 pf, cI aC es 5 stf] H → va_D A [oX11 h0 xp xtp xn xt xk xl xc xo xto xr xch ts ik st, cI aC xo 8 orf, oX4 xt tek tef tew tep tes (nI n) (nI sn) dn, cI aC tek 8 tkc, cI aC tef 8 tfc, cI aC tew 8 twc, cI aC tep 8 u_5, cI aC tes 5 u_6, oX4 xn ek ef ew ep es (nI n) (nI sn) dn, cI aC ek 8 kf, cI aC ef 8 ff, cI aC ew 8 wf, cI aC ep 8 pf, cI aC es 5 stf] → va_S A s.heap H locs → lv_has ls 3 [(0, Value.ref h0), (1, Value.int (nI j))] → W p l e (headSpec (wW yX11_seat cX11_seat 3 (none : Option FieldType)) ({ frames := 2, cells := 0, slots := 0, locals := 61 } : Room)).room s m ([Value.ref h0] : List Value).toArray below meth c H locs 0 0 (MQ below (va_Qv (fun (u : (Nat → Int32) × (Nat → Int32) × (Nat → Int32) × (Nat → Int32) × (Nat → Int32)) => match u with | (tkf2, tff2, twf2, tpf2, tsf2) => (∀ q, q < 8 → tkf2 q = if q < n then kf (sg n orf q) else kf q) ∧ (∀ q, q < 8 → tff2 q = if q < n then ff (sg n orf q) else ff q) ∧ (∀ q, q < 8 → twf2 q = if q < n then wf (sg n orf q) else wf q) ∧ (∀ j, j < 8 → tpf2 j = pf j) ∧ (∀ j, j < 5 → tsf2 j = stf j)) (fun (u : (Nat → Int32) × (Nat → Int32) × (Nat → Int32) × (Nat → Int32) × (Nat → Int32)) (t : State) => match u with | (tkf2, tff2, twf2, tpf2, tsf2) => va_P (dC, dI) classes [oX11 h0 xp xtp xn xt xk xl xc xo xto xr xch ts ik st, oX4 xn ek ef ew ep es (nI n) (nI sn) dn, cI aC ek 8 kf, cI aC ef 8 ff, cI aC ew 8 wf, cI aC ep 8 pf, cI aC es 5 stf, oX4 xt tek tef tew tep tes (nI n) (nI sn) dn, cI aC tek 8 tkf2, cI aC tef 8 tff2, cI aC tew 8 twf2, cI aC tep 8 tpf2, cI aC tes 5 tsf2, cI aC xo 8 orf] t.heap ∧ va_K (dC, dI) classes (TY aC) t ∧ va_D A [oX11 h0 xp xtp xn xt xk xl xc xo xto xr xch ts ik st, oX4 xn ek ef ew ep es (nI n) (nI sn) dn, cI aC ek 8 kf, cI aC ef 8 ff, cI aC ew 8 wf, cI aC ep 8 pf, cI aC es 5 stf, oX4 xt tek tef tew tep tes (nI n) (nI sn) dn, cI aC tek 8 tkf2, cI aC tef 8 tff2, cI aC tew 8 twf2, cI aC tep 8 tpf2, cI aC tes 5 tsf2, cI aC xo 8 orf]) A) ([Value.ref h0] : List Value).toArray s 0 0 A) (F0 m 13 ls []) := by
    intro fu
    induction fu with
    | zero => intro j tkc tfc twc hfu; exact absurd hfu (Nat.not_lt_zero _)
    | succ fu ih_13 =>
      intro j tkc tfc twc hfu hj hk0 hk1 hk2 H locs ls hP hD hS hl
      refine lv_iload_n hx hb dX11_seat_13 rfl (lv_at hl 1 rfl) ?_
      refine lv_aload_n hx hb dX11_seat_14 rfl (lv_at hl 0 rfl) ?_
      refine va_get (D := (dC, dI)) (ci := 11) (v := Value.ref xn) (C := RX11) (T := TX11) (N := 14) hx hb hts inX11 hown hK hP 0 rfl rfl 2 (by decide) (hts _ (gw kw_228 rfl)) (fun _ h9 => h9) rfl dX11_seat_15 ?_
      refine va_get (D := (dC, dI)) (ci := 4) (v := Value.int (nI n)) (C := RX4) (T := TX4) (N := 8) hx hb hts inX4 hown hK hP 8 rfl rfl 5 (by decide) (hts _ (gw kw_50 rfl)) (fun _ h9 => h9) rfl dX11_seat_18 ?_
      refine lv_icmp_ge (tgt := 102) hx hb dX11_seat_21 (by decide) (fun c_7 => ?_) (fun c_7 => ?_)
      · have hjn : j = n := by
          rcases Nat.lt_or_ge j n with q | q
          · exact absurd c_7 (nI_ge q (by omega))
          · omega
        have hpd9 := pd_N (cx := [oX11 h0 xp xtp xn xt xk xl xc xo xto xr xch ts ik st, oX4 xn ek ef ew ep es (nI n) (nI sn) dn, cI aC ek 8 kf, cI aC ef 8 ff, cI aC ew 8 wf, cI aC ep 8 pf, cI aC es 5 stf, oX4 xt tek tef tew tep tes (nI n) (nI sn) dn, cI aC tek 8 tkc, cI aC tef 8 tfc, cI aC tew 8 twc, cI aC tep 8 u_5, cI aC tes 5 u_6, cI aC xo 8 orf]) hP hD [0, 8, 9, 10, 11, 12, 13, 2, 3, 4, 5, 6, 7, 1] (by decide) rfl
        have hP9 := hpd9.1
        have hD9 := hpd9.2
        refine W.widen (k := 0) (n := 0) (by omega) (by omega) ?_
        exact W.vret hx hb hr (fun t ht hW => ⟨⟨(tkc, tfc, twc, u_5, u_6), rfl, ⟨fun q hq => by rw [hk0 q hq, hjn], fun q hq => by rw [hk1 q hq, hjn], fun q hq => by rw [hk2 q hq, hjn], hc9.2.2.2.1, hc9.2.2.2.2⟩, by rw [ht]; exact hP9, va_K.moved hW.alike hK, hD9⟩, hS.F ht⟩) hS.2.2 dX11_seat_102
      · have hlt : j < n := by
          rcases Nat.lt_or_ge j n with q | q
          · exact q
          · exact absurd (nI_le q (by omega)) c_7
        refine lv_aload_n hx hb dX11_seat_24 rfl (lv_at hl 0 rfl) ?_
        refine va_get (D := (dC, dI)) (ci := 11) (v := Value.ref xo) (C := RX11) (T := TX11) (N := 14) hx hb hts inX11 hown hK hP 0 rfl rfl 7 (by decide) (hts _ (gw kw_233 rfl)) (fun _ h9 => h9) rfl dX11_seat_25 ?_
        refine lv_iload_n hx hb dX11_seat_28 rfl (lv_at hl 1 rfl) ?_
        have h_8 : vp_in (nI j) 8 := by first | exact vp_in_nI (by omega) (by omega) | (unfold vp_in; decide) | (subst_vars; first | (unfold vp_in; decide) | exact vp_in_nI (by omega) (by omega))
        refine va_iald hx hb hK hP 1 0 rfl rfl h_8 dX11_seat_29 ?_
        refine lv_topi (fun x_9 e_9 => ?_)
        have hoj : x_9 = orf j := by rw [e_9, nI_clamp (by omega)]
        refine lv_istore_n (lv' := [(2, Value.int x_9), (0, Value.ref h0), (1, Value.int (nI j))]) hx hb dX11_seat_30 rfl hl (by decide) rfl (fun ls hl => ?_)
        refine lv_aload_n hx hb dX11_seat_31 rfl (lv_at hl 1 rfl) ?_
        refine va_get (D := (dC, dI)) (ci := 11) (v := Value.ref xn) (C := RX11) (T := TX11) (N := 14) hx hb hts inX11 hown hK hP 0 rfl rfl 2 (by decide) (hts _ (gw kw_228 rfl)) (fun _ h9 => h9) rfl dX11_seat_32 ?_
        refine lv_iload_n hx hb dX11_seat_35 rfl (lv_at hl 0 rfl) ?_
        have hpd9 := pdf_N (cx := [oX4 xn ek ef ew ep es (nI n) (nI sn) dn]) hP hD hS hA [8] (by decide) rfl
        have hPc := hpd9.1
        have hDc := hpd9.2.1
        have hFc := hpd9.2.2
        clear hpd9
        refine va_calli (va_runV (As := [Value.int x_9]) (rest := []) ⟨hx, hb, hml, hown, hts⟩ (c_X4_has l dC dI aC H.size xn ek ef ew ep es (nI n) (nI sn) dn x_9 ) ⟨(callB_of 1 hts (gG kw_340) rfl rfl rfl (hts _ (gw kw_2 rfl)) (hts _ (gw kw_337 rfl)) hd_X4_has ⟨Nat.le_of_ble_eq_true rfl, Nat.le_of_ble_eq_true rfl⟩), (hts _ (gw kw_338 rfl)), (hts _ (gw kw_339 rfl))⟩ ⟨fb_std, va_recv (q := (RX4, TX4, 8)) hK hPc (ci := 4) (q0 := 0) rfl rfl, pre_std hPc hK hDc hN⟩ rfl rfl hl.1 rfl (lv_room (Nat.le_of_ble_eq_true rfl)) dX11_seat_36 ⟨Nat.le_of_ble_eq_true rfl, Nat.le_of_ble_eq_true rfl⟩) hS (fun q _ h => hFc q h) hFc (fun x_10 u9 t9 H1 locs ht hvm hw_10 hB hz1 hk1 hS => ?_)
        obtain ⟨hP1, hK1, hD1⟩ := hB
        rw [ht] at hP1
        clear hK1
        try dsimp only at hw_10
        have hpd9 : PDx (dC, dI) classes A H1 [oX11 h0 xp xtp xn xt xk xl xc xo xto xr xch ts ik st, cI aC xo 8 orf, oX4 xt tek tef tew tep tes (nI n) (nI sn) dn, cI aC tek 8 tkc, cI aC tef 8 tfc, cI aC tew 8 twc, cI aC tep 8 u_5, cI aC tes 5 u_6, cI aC ek 8 kf, cI aC ef 8 ff, cI aC ew 8 wf, cI aC ep 8 pf, cI aC es 5 stf, oX4 xn ek ef ew ep es (nI n) (nI sn) dn] := jn_N (wr := [oX11 h0 xp xtp xn xt xk xl xc xo xto xr xch ts ik st, cI aC xo 8 orf, oX4 xt tek tef tew tep tes (nI n) (nI sn) dn, cI aC tek 8 tkc, cI aC tef 8 tfc, cI aC tew 8 twc, cI aC tep 8 u_5, cI aC tes 5 u_6, cI aC ek 8 kf, cI aC ef 8 ff, cI aC ew 8 wf, cI aC ep 8 pf, cI aC es 5 stf]) hFc hk1 hP1 hD1 hP hD [8] [0, 1, 2, 3, 4, 5, 6, 7, 9, 10, 11, 12, 13] rfl rfl (by decide) (by decide)
        have hP := hpd9.1
        have hD := hpd9.2
        clear hpd9
        generalize H1 = H at hP hS ⊢
        clear hPc hDc hFc hz1 hk1 hP1 hD1 ht hvm
        have hz_36 := hw_10
        refine lv_if_eq (tgt := 96) hx hb dX11_seat_39 (by decide) (fun c_11 => ?_) (fun c_11 => ?_)
        · have hsg : sg n orf j = j := sg_n (by rw [← hoj]; exact has_n hz_36 c_11)
          have hs0 : ∀ q, q < 8 → tkc q = if q < j + 1 then kf (sg n orf q) else kf q := fun q hq => by
            rw [hk0 q hq]
            by_cases e : q = j
            · subst e; rw [if_neg (Nat.lt_irrefl _), if_pos (Nat.lt_succ_self _), hsg]
            · by_cases e2 : q < j
              · rw [if_pos e2, if_pos (by omega)]
              · rw [if_neg e2, if_neg (by omega)]
          have hs1 : ∀ q, q < 8 → tfc q = if q < j + 1 then ff (sg n orf q) else ff q := fun q hq => by
            rw [hk1 q hq]
            by_cases e : q = j
            · subst e; rw [if_neg (Nat.lt_irrefl _), if_pos (Nat.lt_succ_self _), hsg]
            · by_cases e2 : q < j
              · rw [if_pos e2, if_pos (by omega)]
              · rw [if_neg e2, if_neg (by omega)]
          have hs2 : ∀ q, q < 8 → twc q = if q < j + 1 then wf (sg n orf q) else wf q := fun q hq => by
            rw [hk2 q hq]
            by_cases e : q = j
            · subst e; rw [if_neg (Nat.lt_irrefl _), if_pos (Nat.lt_succ_self _), hsg]
            · by_cases e2 : q < j
              · rw [if_pos e2, if_pos (by omega)]
              · rw [if_neg e2, if_neg (by omega)]
          obtain ⟨x_12, e_12⟩ : ∃ y : Int32, y = (nI j) + 1 := ⟨_, rfl⟩
          refine lv_iinc (v := x_12) (lv' := [(1, Value.int x_12), (2, Value.int x_9), (0, Value.ref h0)]) hx hb dX11_seat_96 hl (k := 2) rfl (by rw [e_12]; rfl) (by decide) rfl (fun ls hl => ?_)
          have h9 : x_12 = nI (j + 1) := by rw [e_12, nI_1]
          subst h9
          refine lv_goto (tgt := 13) hx hb dX11_seat_99 (by decide) ?_
          exact ih_13 (j + 1) tkc tfc twc (ms_lt hlt hfu) (by omega) (hs0) (hs1) (hs2) _ _ _ (hP.sub [0, 1, 2, 3, 4, 5, 6, 7, 13, 8, 9, 10, 11, 12] rfl) (hD.sub [0, 1, 2, 3, 4, 5, 6, 7, 13, 8, 9, 10, 11, 12] (by decide) rfl) hS (lv_sub hl [2, 0] rfl)
        · obtain ⟨a, ha8, ha9⟩ := OKI_ix hn8 (has_y hz_36 c_11)
          have h9 : x_9 = nI a := ha9
          subst h9
          refine lv_aload_n hx hb dX11_seat_42 rfl (lv_at hl 1 rfl) ?_
          refine va_get (D := (dC, dI)) (ci := 11) (v := Value.ref xt) (C := RX11) (T := TX11) (N := 14) hx hb hts inX11 hown hK hP 0 rfl rfl 3 (by decide) (hts _ (gw kw_229 rfl)) (fun _ h9 => h9) rfl dX11_seat_43 ?_
          refine va_get (D := (dC, dI)) (ci := 4) (v := Value.ref tek) (C := RX4) (T := TX4) (N := 8) hx hb hts inX4 hown hK hP 2 rfl rfl 0 (by decide) (hts _ (gw kw_34 rfl)) (fun _ h9 => h9) rfl dX11_seat_46 ?_
          refine lv_iload_n hx hb dX11_seat_49 rfl (lv_at hl 2 rfl) ?_
          refine lv_aload_n hx hb dX11_seat_50 rfl (lv_at hl 1 rfl) ?_
          refine va_get (D := (dC, dI)) (ci := 11) (v := Value.ref xn) (C := RX11) (T := TX11) (N := 14) hx hb hts inX11 hown hK hP 0 rfl rfl 2 (by decide) (hts _ (gw kw_228 rfl)) (fun _ h9 => h9) rfl dX11_seat_51 ?_
          refine va_get (D := (dC, dI)) (ci := 4) (v := Value.ref ek) (C := RX4) (T := TX4) (N := 8) hx hb hts inX4 hown hK hP 13 rfl rfl 0 (by decide) (hts _ (gw kw_34 rfl)) (fun _ h9 => h9) rfl dX11_seat_54 ?_
          refine lv_iload_n hx hb dX11_seat_57 rfl (lv_at hl 0 rfl) ?_
          have h_13 : vp_in (nI a) 8 := by first | exact vp_in_nI (by omega) (by omega) | (unfold vp_in; decide) | (subst_vars; first | (unfold vp_in; decide) | exact vp_in_nI (by omega) (by omega))
          refine va_iald hx hb hK hP 8 0 rfl rfl h_13 dX11_seat_58 ?_
          refine lv_topi (fun x_14 e_14 => ?_)
          have h_15 : vp_in (nI j) 8 := by first | exact vp_in_nI (by omega) (by omega) | (unfold vp_in; decide) | (subst_vars; first | (unfold vp_in; decide) | exact vp_in_nI (by omega) (by omega))
          refine va_iast hx hb hK hP hD hS 3 0 rfl rfl h_15 dX11_seat_59 (fun H locs hP hD hS => ?_)
          obtain ⟨f_16, e_f_16⟩ : ∃ y : Nat → Int32, y = upd tkc (nI j : Int32).toNatClampNeg x_14 := ⟨_, rfl⟩
          have hpd9 : PDx (dC, dI) classes A H [oX11 h0 xp xtp xn xt xk xl xc xo xto xr xch ts ik st, cI aC xo 8 orf, oX4 xt tek tef tew tep tes (nI n) (nI sn) dn, cI aC tek 8 f_16, cI aC tef 8 tfc, cI aC tew 8 twc, cI aC tep 8 u_5, cI aC tes 5 u_6, cI aC ek 8 kf, cI aC ef 8 ff, cI aC ew 8 wf, cI aC ep 8 pf, cI aC es 5 stf, oX4 xn ek ef ew ep es (nI n) (nI sn) dn] := by rw [e_f_16]; exact ⟨hP, hD⟩
          have hP := hpd9.1
          have hD := hpd9.2
          clear hpd9
          refine lv_aload_n hx hb dX11_seat_60 rfl (lv_at hl 1 rfl) ?_
          refine va_get (D := (dC, dI)) (ci := 11) (v := Value.ref xt) (C := RX11) (T := TX11) (N := 14) hx hb hts inX11 hown hK hP 0 rfl rfl 3 (by decide) (hts _ (gw kw_229 rfl)) (fun _ h9 => h9) rfl dX11_seat_61 ?_
          refine va_get (D := (dC, dI)) (ci := 4) (v := Value.ref tef) (C := RX4) (T := TX4) (N := 8) hx hb hts inX4 hown hK hP 2 rfl rfl 1 (by decide) (hts _ (gw kw_37 rfl)) (fun _ h9 => h9) rfl dX11_seat_64 ?_
          refine lv_iload_n hx hb dX11_seat_67 rfl (lv_at hl 2 rfl) ?_
          refine lv_aload_n hx hb dX11_seat_68 rfl (lv_at hl 1 rfl) ?_
          refine va_get (D := (dC, dI)) (ci := 11) (v := Value.ref xn) (C := RX11) (T := TX11) (N := 14) hx hb hts inX11 hown hK hP 0 rfl rfl 2 (by decide) (hts _ (gw kw_228 rfl)) (fun _ h9 => h9) rfl dX11_seat_69 ?_
          refine va_get (D := (dC, dI)) (ci := 4) (v := Value.ref ef) (C := RX4) (T := TX4) (N := 8) hx hb hts inX4 hown hK hP 13 rfl rfl 1 (by decide) (hts _ (gw kw_37 rfl)) (fun _ h9 => h9) rfl dX11_seat_72 ?_
          refine lv_iload_n hx hb dX11_seat_75 rfl (lv_at hl 0 rfl) ?_
          have h_17 : vp_in (nI a) 8 := by first | exact vp_in_nI (by omega) (by omega) | (unfold vp_in; decide) | (subst_vars; first | (unfold vp_in; decide) | exact vp_in_nI (by omega) (by omega))
          refine va_iald hx hb hK hP 9 0 rfl rfl h_17 dX11_seat_76 ?_
          refine lv_topi (fun x_18 e_18 => ?_)
          have h_19 : vp_in (nI j) 8 := by first | exact vp_in_nI (by omega) (by omega) | (unfold vp_in; decide) | (subst_vars; first | (unfold vp_in; decide) | exact vp_in_nI (by omega) (by omega))
          refine va_iast hx hb hK hP hD hS 4 0 rfl rfl h_19 dX11_seat_77 (fun H locs hP hD hS => ?_)
          obtain ⟨f_20, e_f_20⟩ : ∃ y : Nat → Int32, y = upd tfc (nI j : Int32).toNatClampNeg x_18 := ⟨_, rfl⟩
          have hpd9 : PDx (dC, dI) classes A H [oX11 h0 xp xtp xn xt xk xl xc xo xto xr xch ts ik st, cI aC xo 8 orf, oX4 xt tek tef tew tep tes (nI n) (nI sn) dn, cI aC tek 8 f_16, cI aC tef 8 f_20, cI aC tew 8 twc, cI aC tep 8 u_5, cI aC tes 5 u_6, cI aC ek 8 kf, cI aC ef 8 ff, cI aC ew 8 wf, cI aC ep 8 pf, cI aC es 5 stf, oX4 xn ek ef ew ep es (nI n) (nI sn) dn] := by rw [e_f_20]; exact ⟨hP, hD⟩
          have hP := hpd9.1
          have hD := hpd9.2
          clear hpd9
          refine lv_aload_n hx hb dX11_seat_78 rfl (lv_at hl 1 rfl) ?_
          refine va_get (D := (dC, dI)) (ci := 11) (v := Value.ref xt) (C := RX11) (T := TX11) (N := 14) hx hb hts inX11 hown hK hP 0 rfl rfl 3 (by decide) (hts _ (gw kw_229 rfl)) (fun _ h9 => h9) rfl dX11_seat_79 ?_
          refine va_get (D := (dC, dI)) (ci := 4) (v := Value.ref tew) (C := RX4) (T := TX4) (N := 8) hx hb hts inX4 hown hK hP 2 rfl rfl 2 (by decide) (hts _ (gw kw_39 rfl)) (fun _ h9 => h9) rfl dX11_seat_82 ?_
          refine lv_iload_n hx hb dX11_seat_85 rfl (lv_at hl 2 rfl) ?_
          refine lv_aload_n hx hb dX11_seat_86 rfl (lv_at hl 1 rfl) ?_
          refine va_get (D := (dC, dI)) (ci := 11) (v := Value.ref xn) (C := RX11) (T := TX11) (N := 14) hx hb hts inX11 hown hK hP 0 rfl rfl 2 (by decide) (hts _ (gw kw_228 rfl)) (fun _ h9 => h9) rfl dX11_seat_87 ?_
          refine va_get (D := (dC, dI)) (ci := 4) (v := Value.ref ew) (C := RX4) (T := TX4) (N := 8) hx hb hts inX4 hown hK hP 13 rfl rfl 2 (by decide) (hts _ (gw kw_39 rfl)) (fun _ h9 => h9) rfl dX11_seat_90 ?_
          refine lv_iload_n hx hb dX11_seat_93 rfl (lv_at hl 0 rfl) ?_
          have h_21 : vp_in (nI a) 8 := by first | exact vp_in_nI (by omega) (by omega) | (unfold vp_in; decide) | (subst_vars; first | (unfold vp_in; decide) | exact vp_in_nI (by omega) (by omega))
          refine va_iald hx hb hK hP 10 0 rfl rfl h_21 dX11_seat_94 ?_
          refine lv_topi (fun x_22 e_22 => ?_)
          have h_23 : vp_in (nI j) 8 := by first | exact vp_in_nI (by omega) (by omega) | (unfold vp_in; decide) | (subst_vars; first | (unfold vp_in; decide) | exact vp_in_nI (by omega) (by omega))
          refine va_iast hx hb hK hP hD hS 5 0 rfl rfl h_23 dX11_seat_95 (fun H locs hP hD hS => ?_)
          obtain ⟨f_24, e_f_24⟩ : ∃ y : Nat → Int32, y = upd twc (nI j : Int32).toNatClampNeg x_22 := ⟨_, rfl⟩
          have hpd9 : PDx (dC, dI) classes A H [oX11 h0 xp xtp xn xt xk xl xc xo xto xr xch ts ik st, cI aC xo 8 orf, oX4 xt tek tef tew tep tes (nI n) (nI sn) dn, cI aC tek 8 f_16, cI aC tef 8 f_20, cI aC tew 8 f_24, cI aC tep 8 u_5, cI aC tes 5 u_6, cI aC ek 8 kf, cI aC ef 8 ff, cI aC ew 8 wf, cI aC ep 8 pf, cI aC es 5 stf, oX4 xn ek ef ew ep es (nI n) (nI sn) dn] := by rw [e_f_24]; exact ⟨hP, hD⟩
          have hP := hpd9.1
          have hD := hpd9.2
          clear hpd9
          have hsg : sg n orf j = a := by rw [sg_y (by rw [← hoj]; exact OKI_nI hn8 ha8), ← hoj, nI_clamp (by omega)]
          have hs0 : ∀ q, q < 8 → f_16 q = if q < j + 1 then kf (sg n orf q) else kf q := fun q hq => by
            rw [e_f_16, nI_clamp (by omega)]
            by_cases e : q = j
            · subst e; rw [pk_us, if_pos (Nat.lt_succ_self _), hsg, e_14, nI_clamp (by omega)]
            · rw [pk_un e, hk0 q hq]
              by_cases e2 : q < j
              · rw [if_pos e2, if_pos (by omega)]
              · rw [if_neg e2, if_neg (by omega)]
          have hs1 : ∀ q, q < 8 → f_20 q = if q < j + 1 then ff (sg n orf q) else ff q := fun q hq => by
            rw [e_f_20, nI_clamp (by omega)]
            by_cases e : q = j
            · subst e; rw [pk_us, if_pos (Nat.lt_succ_self _), hsg, e_18, nI_clamp (by omega)]
            · rw [pk_un e, hk1 q hq]
              by_cases e2 : q < j
              · rw [if_pos e2, if_pos (by omega)]
              · rw [if_neg e2, if_neg (by omega)]
          have hs2 : ∀ q, q < 8 → f_24 q = if q < j + 1 then wf (sg n orf q) else wf q := fun q hq => by
            rw [e_f_24, nI_clamp (by omega)]
            by_cases e : q = j
            · subst e; rw [pk_us, if_pos (Nat.lt_succ_self _), hsg, e_22, nI_clamp (by omega)]
            · rw [pk_un e, hk2 q hq]
              by_cases e2 : q < j
              · rw [if_pos e2, if_pos (by omega)]
              · rw [if_neg e2, if_neg (by omega)]
          obtain ⟨x_25, e_25⟩ : ∃ y : Int32, y = (nI j) + 1 := ⟨_, rfl⟩
          refine lv_iinc (v := x_25) (lv' := [(1, Value.int x_25), (2, Value.int (nI a)), (0, Value.ref h0)]) hx hb dX11_seat_96 hl (k := 2) rfl (by rw [e_25]; rfl) (by decide) rfl (fun ls hl => ?_)
          have h9 : x_25 = nI (j + 1) := by rw [e_25, nI_1]
          subst h9
          refine lv_goto (tgt := 13) hx hb dX11_seat_99 (by decide) ?_
          exact ih_13 (j + 1) f_16 f_20 f_24 (ms_lt hlt hfu) (by omega) (hs0) (hs1) (hs2) _ _ _ (hP.sub [0, 1, 2, 3, 4, 5, 6, 7, 13, 8, 9, 10, 11, 12] rfl) (hD.sub [0, 1, 2, 3, 4, 5, 6, 7, 13, 8, 9, 10, 11, 12] (by decide) rfl) hS (lv_sub hl [2, 0] rfl)
  exact lp_13 ((n - 0) + 1) 0 u_2 u_3 u_4 (Nat.lt_succ_self _) (by omega) (fun q hq => by rw [if_neg (by omega)]; exact hc9.1 q hq) (fun q hq => by rw [if_neg (by omega)]; exact hc9.2.1 q hq) (fun q hq => by rw [if_neg (by omega)]; exact hc9.2.2.1 q hq) _ _ _ (hP.sub [0, 1, 2, 3, 4, 5, 6, 7, 8, 9, 10, 11, 12, 13] rfl) (hD.sub [0, 1, 2, 3, 4, 5, 6, 7, 8, 9, 10, 11, 12, 13] (by decide) rfl) hS (lv_sub hl [1, 0] rfl)

end

