theorem cpy_step {f g : Nat → Int32} {d k : Nat} : upd (va_cpy f g 0 d k) (d + k) (f k) = va_cpy f g 0 d (k + 1) := by
  funext j
  unfold upd va_cpy
  by_cases h : j = d + k
  · subst h
    rw [if_pos rfl, if_pos ⟨by omega, by omega⟩]
    congr 1
    omega
  · rw [if_neg h]
    by_cases h2 : d ≤ j ∧ j < d + k
    · rw [if_pos h2, if_pos ⟨h2.1, by omega⟩]
    · rw [if_neg h2, if_neg (fun q => h2 ⟨q.1, by omega⟩)]
theorem cpy_0 {f g : Nat → Int32} {d : Nat} : g = va_cpy f g 0 d 0 := by
  funext j
  unfold va_cpy
  rw [if_neg (fun q => by omega)]
theorem cpy_i {f g : Nat → Int32} {d k j : Nat} (h : j < k) : va_cpy f g 0 d k (d + j) = f j := by
  unfold va_cpy
  rw [if_pos ⟨by omega, by omega⟩]
  congr 1
  omega
theorem cpy_o {f g : Nat → Int32} {d k j : Nat} (h : j < d ∨ d + k ≤ j) : va_cpy f g 0 d k j = g j := by
  unfold va_cpy
  rw [if_neg (fun q => by omega)]
/-- an evening in the row of what is kept -/
def PK (b : Nat) (kp k f w p s : Nat → Int32) (n sn dn : Int32) : Prop :=
  (∀ j, j < 9 → kp (b + j) = k j) ∧ (∀ j, j < 9 → kp (b + 9 + j) = f j) ∧ (∀ j, j < 9 → kp (b + 18 + j) = w j) ∧ (∀ j, j < 8 → kp (b + 27 + j) = p j) ∧ (∀ j, j < 5 → kp (b + 35 + j) = s j) ∧ kp (b + 40) = n ∧ kp (b + 41) = sn ∧ kp (b + 42) = dn
theorem PK_of {b : Nat} {kp k1 k2 k3 k4 k5 k6 k7 k8 k f w p s : Nat → Int32} {n sn dn : Int32} (e1 : k1 = va_cpy k kp 0 b 9) (e2 : k2 = va_cpy f k1 0 (b + 9) 9) (e3 : k3 = va_cpy w k2 0 (b + 18) 9) (e4 : k4 = va_cpy p k3 0 (b + 27) 8) (e5 : k5 = va_cpy s k4 0 (b + 35) 5) (e6 : k6 = upd k5 (b + 40) n) (e7 : k7 = upd k6 (b + 41) sn) (e8 : k8 = upd k7 (b + 42) dn) : PK b k8 k f w p s n sn dn ∧ ∀ q, q < b ∨ b + 43 ≤ q → k8 q = kp q := by
  refine ⟨⟨fun j hj => ?_, fun j hj => ?_, fun j hj => ?_, fun j hj => ?_, fun j hj => ?_, ?_, ?_, ?_⟩, fun q hq => ?_⟩
  · rw [e8, pk_un (by omega), e7, pk_un (by omega), e6, pk_un (by omega), e5, cpy_o (by omega), e4, cpy_o (by omega), e3, cpy_o (by omega), e2, cpy_o (by omega), e1, cpy_i hj]
  · rw [e8, pk_un (by omega), e7, pk_un (by omega), e6, pk_un (by omega), e5, cpy_o (by omega), e4, cpy_o (by omega), e3, cpy_o (by omega), e2, cpy_i hj]
  · rw [e8, pk_un (by omega), e7, pk_un (by omega), e6, pk_un (by omega), e5, cpy_o (by omega), e4, cpy_o (by omega), e3, cpy_i hj]
  · rw [e8, pk_un (by omega), e7, pk_un (by omega), e6, pk_un (by omega), e5, cpy_o (by omega), e4, cpy_i hj]
  · rw [e8, pk_un (by omega), e7, pk_un (by omega), e6, pk_un (by omega), e5, cpy_i hj]
  · rw [e8, pk_un (by omega), e7, pk_un (by omega), e6, pk_us]
  · rw [e8, pk_un (by omega), e7, pk_us]
  · rw [e8, pk_us]
  · rw [e8, pk_un (by omega), e7, pk_un (by omega), e6, pk_un (by omega), e5, cpy_o (by omega), e4, cpy_o (by omega), e3, cpy_o (by omega), e2, cpy_o (by omega), e1, cpy_o (by omega)]

set_option maxHeartbeats 1000000 in
set_option maxRecDepth 100000 in
/-- X12_passes_k -/
theorem c_X12_passes_k (l : Launch) (dC : Nat → ClassId) (dI : Nat → Nat → Nat) (aC : Nat → ClassId) (sz : Nat) (g0 : Nat) (m_refused : Nat) (m_kind : Nat) (m_figure : Nat) (m_weight : Nat) (m_got : Nat) (m_setting : Nat) (m_tape : Nat) (m_letter : Nat) (m_letterAt : Nat) (m_told : Nat) (m_kept : Nat) (m_price : Nat) (m_offer : Nat) (m_gets : Nat) (m_yes : Nat) (m_buys : Nat) (m_ends : Nat) (m_carried : Nat) (m_row : Nat) (m_keptRow : Nat) (m_likeGets : Nat) (m_likePrice : Nat) (m_ahead : Nat) (men : Int32) (msy : Int32) (mdn : Int32) (tp : Int32) (mat : Int32) (stm : Int32) (him : Int32) (rm : Int32) (oa : Nat) (nA : Nat) (c0 : Nat) (of : Nat → Int32) (kp : Nat → Int32) (hc : c0 + nA ≤ 100) : Met l yX12_passes (wW yX12_passes cX12_passes 3 (none : Option FieldType)) ({ frames := 0, cells := 0, slots := 0, locals := 0 } : Room) (va_Pc [Value.ref g0, Value.ref oa] (fun U => U.heap.size = sz ∧ va_P (dC, dI) classes [oX12 g0 m_refused m_kind m_figure m_weight m_got m_setting men msy mdn m_tape m_letter m_letterAt m_told tp mat stm m_kept him 1 (nI c0) m_price m_offer m_gets m_yes m_buys m_ends m_carried m_row rm m_keptRow m_likeGets m_likePrice m_ahead, cI aC m_kept 100 kp, cI aC oa nA of] U.heap ∧ va_K (dC, dI) classes (TY aC) U ∧ va_D (fun _ => True) [oX12 g0 m_refused m_kind m_figure m_weight m_got m_setting men msy mdn m_tape m_letter m_letterAt m_told tp mat stm m_kept him 1 (nI c0) m_price m_offer m_gets m_yes m_buys m_ends m_carried m_row rm m_keptRow m_likeGets m_likePrice m_ahead, cI aC m_kept 100 kp, cI aC oa nA of] ∧ NX U)) (va_Qv (fun (kq : Nat → Int32) => kq = va_cpy of kp 0 c0 nA) (fun (kq : Nat → Int32) (t : State) => va_P (dC, dI) classes [oX12 g0 m_refused m_kind m_figure m_weight m_got m_setting men msy mdn m_tape m_letter m_letterAt m_told tp mat stm m_kept him 1 (nI (c0 + nA)) m_price m_offer m_gets m_yes m_buys m_ends m_carried m_row rm m_keptRow m_likeGets m_likePrice m_ahead, cI aC m_kept 100 kq, cI aC oa nA of] t.heap ∧ va_K (dC, dI) classes (TY aC) t ∧ va_D (va_A [oX12 g0 m_refused m_kind m_figure m_weight m_got m_setting men msy mdn m_tape m_letter m_letterAt m_told tp mat stm m_kept him 1 (nI c0) m_price m_offer m_gets m_yes m_buys m_ends m_carried m_row rm m_keptRow m_likeGets m_likePrice m_ahead, cI aC m_kept 100 kp, cI aC oa nA of] sz) [oX12 g0 m_refused m_kind m_figure m_weight m_got m_setting men msy mdn m_tape m_letter m_letterAt m_told tp mat stm m_kept him 1 (nI (c0 + nA)) m_price m_offer m_gets m_yes m_buys m_ends m_carried m_row rm m_keptRow m_likeGets m_likePrice m_ahead, cI aC m_kept 100 kq, cI aC oa nA of]) (va_A [oX12 g0 m_refused m_kind m_figure m_weight m_got m_setting men msy mdn m_tape m_letter m_letterAt m_told tp mat stm m_kept him 1 (nI c0) m_price m_offer m_gets m_yes m_buys m_ends m_carried m_row rm m_keptRow m_likeGets m_likePrice m_ahead, cI aC m_kept 100 kp, cI aC oa nA of] sz)) 0 0 (va_A [oX12 g0 m_refused m_kind m_figure m_weight m_got m_setting men msy mdn m_tape m_letter m_letterAt m_told tp mat stm m_kept him 1 (nI c0) m_price m_offer m_gets m_yes m_buys m_ends m_carried m_row rm m_keptRow m_likeGets m_likePrice m_ahead, cI aC m_kept 100 kp, cI aC oa nA of] sz) := by
  refine Met.ofW (cc := cX12_passes) (maxL := 3) (ret := (none : Option FieldType)) (by decide) rfl ?_
  intro p e s m args below meth c s₁ B hml hv
  obtain ⟨rfl, hsz, hP, hK, hD0, hN⟩ := hv
  have hx := B.exec
  have hb := B.bytes
  have hr := B.returns
  have hts0 := atoms_spec (ws := (wW yX12_passes cX12_passes 3 (none : Option FieldType))) B.pre
  have hts : ∀ w9 ∈ lw_G, w9.before ([Value.ref g0, Value.ref oa] : List Value).toArray s = true := fun w9 h9 => hts0 w9 (List.mem_cons_of_mem _ h9)
  have hown : s.vm.findClass RX12 = some m.cls := findClass_of_methodNamed (x := yX12_passes) B.named
  have hlocks := B.notSynchronized
  subst hsz
  have hD := hD0.self (sz := s.heap.size)
  generalize hAe : va_A [oX12 g0 m_refused m_kind m_figure m_weight m_got m_setting men msy mdn m_tape m_letter m_letterAt m_told tp mat stm m_kept him 1 (nI c0) m_price m_offer m_gets m_yes m_buys m_ends m_carried m_row rm m_keptRow m_likeGets m_likePrice m_ahead, cI aC m_kept 100 kp, cI aC oa nA of] s.heap.size = A at hD ⊢
  have hA : ∀ q : Nat, s.heap.size ≤ q → A q := fun q h => by rw [← hAe]; exact Or.inr h
  obtain ⟨H, hHe⟩ : ∃ H : Heap, H = s.heap := ⟨_, rfl⟩
  have hS : va_S A s.heap H [] := by rw [hHe]; exact va_S.rf
  have hP : va_P (dC, dI) classes [oX12 g0 m_refused m_kind m_figure m_weight m_got m_setting men msy mdn m_tape m_letter m_letterAt m_told tp mat stm m_kept him 1 (nI c0) m_price m_offer m_gets m_yes m_buys m_ends m_carried m_row rm m_keptRow m_likeGets m_likePrice m_ahead, cI aC m_kept 100 kp, cI aC oa nA of] H := by rw [hHe]; exact hP
  have hl := lv_entry ([Value.ref g0, Value.ref oa]) (n := 3) (Nat.le_of_ble_eq_true rfl)
  rw [lg_entry_eq]
  generalize (lg_sl ([Value.ref g0, Value.ref oa]) ++ List.replicate (3 - (lg_sl ([Value.ref g0, Value.ref oa])).length) Slot.unset).toArray = ls at hl ⊢
  have hl : lv_has ls 3 [(0, Value.ref g0), (1, Value.ref oa)] := hl
  rw [← hHe]
  refine lv_iconst (v := 0) hx hb dX12_passes_0 (by decide) ?_
  refine lv_istore_n (lv' := [(2, Value.int 0), (0, Value.ref g0), (1, Value.ref oa)]) hx hb dX12_passes_1 rfl hl (by decide) rfl (fun ls hl => ?_)
  have lp_2 : ∀ (fu : Nat) (k : Nat) (kc : Nat → Int32) (hfu : nA - k < fu) (hk : k ≤ nA) (hkc : kc = va_cpy of kp 0 c0 k) (H : Heap) (locs : List Loc) (ls : Array Slot), va_P (dC, dI) classes [oX12 g0 m_refused m_kind m_figure m_weight m_got m_setting men msy mdn m_tape m_letter m_letterAt m_told tp mat stm m_kept him 1 (nI (c0 + k)) m_price m_offer m_gets m_yes m_buys m_ends m_carried m_row rm m_keptRow m_likeGets m_likePrice m_ahead, cI aC m_kept 100 kc, cI aC oa nA of] H → va_D A [oX12 g0 m_refused m_kind m_figure m_weight m_got m_setting men msy mdn m_tape m_letter m_letterAt m_told tp mat stm m_kept him 1 (nI (c0 + k)) m_price m_offer m_gets m_yes m_buys m_ends m_carried m_row rm m_keptRow m_likeGets m_likePrice m_ahead, cI aC m_kept 100 kc, cI aC oa nA of] → va_S A s.heap H locs → lv_has ls 3 [(0, Value.ref g0), (1, Value.ref oa), (2, Value.int (nI k))] → W p l e (headSpec (wW yX12_passes cX12_passes 3 (none : Option FieldType)) ({ frames := 0, cells := 0, slots := 0, locals := 0 } : Room)).room s m ([Value.ref g0, Value.ref oa] : List Value).toArray below meth c H locs 0 0 (MQ below (va_Qv (fun (kq : Nat → Int32) => kq = va_cpy of kp 0 c0 nA) (fun (kq : Nat → Int32) (t : State) => va_P (dC, dI) classes [oX12 g0 m_refused m_kind m_figure m_weight m_got m_setting men msy mdn m_tape m_letter m_letterAt m_told tp mat stm m_kept him 1 (nI (c0 + nA)) m_price m_offer m_gets m_yes m_buys m_ends m_carried m_row rm m_keptRow m_likeGets m_likePrice m_ahead, cI aC m_kept 100 kq, cI aC oa nA of] t.heap ∧ va_K (dC, dI) classes (TY aC) t ∧ va_D A [oX12 g0 m_refused m_kind m_figure m_weight m_got m_setting men msy mdn m_tape m_letter m_letterAt m_told tp mat stm m_kept him 1 (nI (c0 + nA)) m_price m_offer m_gets m_yes m_buys m_ends m_carried m_row rm m_keptRow m_likeGets m_likePrice m_ahead, cI aC m_kept 100 kq, cI aC oa nA of]) A) ([Value.ref g0, Value.ref oa] : List Value).toArray s 0 0 A) (F0 m 2 ls []) := by
    intro fu
    induction fu with
    | zero => intro k kc hfu; exact absurd hfu (Nat.not_lt_zero _)
    | succ fu ih_2 =>
      intro k kc hfu hk hkc H locs ls hP hD hS hl
      refine lv_iload_n hx hb dX12_passes_2 rfl (lv_at hl 2 rfl) ?_
      refine lv_aload_n hx hb dX12_passes_3 rfl (lv_at hl 1 rfl) ?_
      refine va_alen (v := Int32.ofNat nA) hx hb hK hP 2 0 rfl rfl rfl dX12_passes_4 ?_
      refine lv_topi (fun x_1 e_1 => ?_)
      refine lv_icmp_ge (tgt := 58) hx hb dX12_passes_5 (by decide) (fun c_2 => ?_) (fun c_2 => ?_)
      · have hkn : k = nA := by
          rcases Nat.lt_or_ge k nA with q | q
          · exact absurd (by rw [e_1] at c_2; exact c_2) (nI_ge q (by omega))
          · omega
        subst hkn
        have hpd9 := pd_N (cx := [oX12 g0 m_refused m_kind m_figure m_weight m_got m_setting men msy mdn m_tape m_letter m_letterAt m_told tp mat stm m_kept him 1 (nI (c0 + k)) m_price m_offer m_gets m_yes m_buys m_ends m_carried m_row rm m_keptRow m_likeGets m_likePrice m_ahead, cI aC m_kept 100 kc, cI aC oa k of]) hP hD [0, 1, 2] (by decide) rfl
        have hP9 := hpd9.1
        have hD9 := hpd9.2
        refine W.widen (k := 0) (n := 0) (by omega) (by omega) ?_
        exact W.vret hx hb hr (fun t ht hW => ⟨⟨(kc), rfl, hkc, by rw [ht]; exact hP9, va_K.moved hW.alike hK, hD9⟩, hS.F ht⟩) hS.2.2 dX12_passes_58
      · have hlt : k < nA := by
          rcases Nat.lt_or_ge k nA with q | q
          · exact q
          · exact absurd (by rw [e_1]; exact nI_le q (by omega)) c_2
        refine lv_aload_n hx hb dX12_passes_8 rfl (lv_at hl 0 rfl) ?_
        refine va_get (D := (dC, dI)) (ci := 12) (v := Value.int 1) (C := RX12) (T := TX12) (N := 33) hx hb hts inX12 hown hK hP 0 rfl rfl 18 (by decide) (hts _ (gw kw_735 rfl)) (fun _ h9 => h9) rfl dX12_passes_9 ?_
        refine lv_if_eq (tgt := 30) hx hb dX12_passes_12 (by decide) (fun c_3 => ?_) (fun c_3 => ?_)
        · exact absurd c_3 (by decide)
        · refine lv_aload_n hx hb dX12_passes_15 rfl (lv_at hl 0 rfl) ?_
          refine va_get (D := (dC, dI)) (ci := 12) (v := Value.ref m_kept) (C := RX12) (T := TX12) (N := 33) hx hb hts inX12 hown hK hP 0 rfl rfl 16 (by decide) (hts _ (gw kw_733 rfl)) (fun _ h9 => h9) rfl dX12_passes_16 ?_
          refine lv_aload_n hx hb dX12_passes_19 rfl (lv_at hl 0 rfl) ?_
          refine va_get (D := (dC, dI)) (ci := 12) (v := Value.int (nI (c0 + k))) (C := RX12) (T := TX12) (N := 33) hx hb hts inX12 hown hK hP 0 rfl rfl 19 (by decide) (hts _ (gw kw_736 rfl)) (fun _ h9 => h9) rfl dX12_passes_20 ?_
          refine lv_aload_n hx hb dX12_passes_23 rfl (lv_at hl 1 rfl) ?_
          refine lv_iload_n hx hb dX12_passes_24 rfl (lv_at hl 2 rfl) ?_
          have h_4 : vp_in (nI k) nA := vp_in_nI (by omega) (by omega)
          refine va_iald hx hb hK hP 2 0 rfl rfl h_4 dX12_passes_25 ?_
          refine lv_topi (fun x_5 e_5 => ?_)
          have h_6 : vp_in (nI (c0 + k)) 100 := vp_in_nI (by omega) (by omega)
          refine va_iast hx hb hK hP hD hS 1 0 rfl rfl h_6 dX12_passes_26 (fun H locs hP hD hS => ?_)
          obtain ⟨f_7, e_f_7⟩ : ∃ y : Nat → Int32, y = upd kc (nI (c0 + k) : Int32).toNatClampNeg x_5 := ⟨_, rfl⟩
          have hpd9 : PDx (dC, dI) classes A H [oX12 g0 m_refused m_kind m_figure m_weight m_got m_setting men msy mdn m_tape m_letter m_letterAt m_told tp mat stm m_kept him 1 (nI (c0 + k)) m_price m_offer m_gets m_yes m_buys m_ends m_carried m_row rm m_keptRow m_likeGets m_likePrice m_ahead, cI aC m_kept 100 f_7, cI aC oa nA of] := by rw [e_f_7]; exact ⟨hP, hD⟩
          have hP := hpd9.1
          have hD := hpd9.2
          clear hpd9
          refine lv_goto (tgt := 42) hx hb dX12_passes_27 (by decide) ?_
          refine lv_aload_n hx hb dX12_passes_42 rfl (lv_at hl 0 rfl) ?_
          refine lv_dup hx hb dX12_passes_43 rfl ?_
          refine va_get (D := (dC, dI)) (ci := 12) (v := Value.int (nI (c0 + k))) (C := RX12) (T := TX12) (N := 33) hx hb hts inX12 hown hK hP 0 rfl rfl 19 (by decide) (hts _ (gw kw_736 rfl)) (fun _ h9 => h9) rfl dX12_passes_44 ?_
          refine lv_iconst (v := 1) hx hb dX12_passes_47 (by decide) ?_
          refine lv_iadd hx hb dX12_passes_48 ?_
          refine lv_topi (fun x_8 e_8 => ?_)
          refine va_put (D := (dC, dI)) (ci := 12) (v := Value.int x_8) (ty := .int) (C := RX12) (T := TX12) (N := 33) hx hb hts inX12 tyX12 tyX12_ok nmX12 hown hK hP hD hS 0 rfl rfl 19 (by decide) (hts _ (gw kw_736 rfl)) (fun _ h9 => h9) rfl (by decide +kernel) rfl rfl (Nat.le_of_ble_eq_true rfl) dX12_passes_49 (fun H locs hP hD hS => ?_)
          have hpd9 : PDx (dC, dI) classes A H [oX12 g0 m_refused m_kind m_figure m_weight m_got m_setting men msy mdn m_tape m_letter m_letterAt m_told tp mat stm m_kept him 1 x_8 m_price m_offer m_gets m_yes m_buys m_ends m_carried m_row rm m_keptRow m_likeGets m_likePrice m_ahead, cI aC m_kept 100 f_7, cI aC oa nA of] := ⟨hP, hD⟩
          have hP := hpd9.1
          have hD := hpd9.2
          clear hpd9
          have h9 : x_8 = nI (c0 + (k + 1)) := by rw [e_8, nI_1]; rfl
          subst h9
          obtain ⟨x_9, e_9⟩ : ∃ y : Int32, y = (nI k) + 1 := ⟨_, rfl⟩
          refine lv_iinc (v := x_9) (lv' := [(2, Value.int x_9), (0, Value.ref g0), (1, Value.ref oa)]) hx hb dX12_passes_52 hl (k := 2) rfl (by rw [e_9]; rfl) (by decide) rfl (fun ls hl => ?_)
          have h9 : x_9 = nI (k + 1) := by rw [e_9, nI_1]
          subst h9
          refine lv_goto (tgt := 2) hx hb dX12_passes_55 (by decide) ?_
          exact ih_2 (k + 1) f_7 (by omega) (by omega) (by rw [e_f_7, e_5, hkc, nI_clamp (by omega), nI_clamp (by omega)]; exact cpy_step) _ _ _ (hP.sub [0, 1, 2] rfl) (hD.sub [0, 1, 2] (by decide) rfl) hS (lv_sub hl [1, 2, 0] rfl)
  exact lp_2 ((nA - 0) + 1) 0 kp (Nat.lt_succ_self _) (Nat.zero_le _) (cpy_0) _ _ _ (hP.sub [0, 1, 2] rfl) (hD.sub [0, 1, 2] (by decide) rfl) hS (lv_sub hl [1, 2, 0] rfl)

set_option maxHeartbeats 1000000 in
set_option maxRecDepth 100000 in
/-- X12_passOne_k -/
theorem c_X12_passOne_k (l : Launch) (dC : Nat → ClassId) (dI : Nat → Nat → Nat) (aC : Nat → ClassId) (sz : Nat) (g0 : Nat) (m_refused : Nat) (m_kind : Nat) (m_figure : Nat) (m_weight : Nat) (m_got : Nat) (m_setting : Nat) (m_tape : Nat) (m_letter : Nat) (m_letterAt : Nat) (m_told : Nat) (m_kept : Nat) (m_price : Nat) (m_offer : Nat) (m_gets : Nat) (m_yes : Nat) (m_buys : Nat) (m_ends : Nat) (m_carried : Nat) (m_row : Nat) (m_keptRow : Nat) (m_likeGets : Nat) (m_likePrice : Nat) (m_ahead : Nat) (men : Int32) (msy : Int32) (mdn : Int32) (tp : Int32) (mat : Int32) (stm : Int32) (him : Int32) (rm : Int32) (v : Int32) (c0 : Nat) (kp : Nat → Int32) (hc : c0 < 100) : Met l yX12_passOne (wW yX12_passOne cX12_passOne 3 (some .int)) ({ frames := 0, cells := 0, slots := 0, locals := 0 } : Room) (va_Pc [Value.ref g0, Value.int v] (fun U => U.heap.size = sz ∧ va_P (dC, dI) classes [oX12 g0 m_refused m_kind m_figure m_weight m_got m_setting men msy mdn m_tape m_letter m_letterAt m_told tp mat stm m_kept him 1 (nI c0) m_price m_offer m_gets m_yes m_buys m_ends m_carried m_row rm m_keptRow m_likeGets m_likePrice m_ahead, cI aC m_kept 100 kp] U.heap ∧ va_K (dC, dI) classes (TY aC) U ∧ va_D (fun _ => True) [oX12 g0 m_refused m_kind m_figure m_weight m_got m_setting men msy mdn m_tape m_letter m_letterAt m_told tp mat stm m_kept him 1 (nI c0) m_price m_offer m_gets m_yes m_buys m_ends m_carried m_row rm m_keptRow m_likeGets m_likePrice m_ahead, cI aC m_kept 100 kp] ∧ NX U)) (va_Qi (fun (r : Int32) (kq : Nat → Int32) => r = v ∧ kq = upd kp c0 v) (fun (kq : Nat → Int32) (t : State) => va_P (dC, dI) classes [oX12 g0 m_refused m_kind m_figure m_weight m_got m_setting men msy mdn m_tape m_letter m_letterAt m_told tp mat stm m_kept him 1 (nI (c0 + 1)) m_price m_offer m_gets m_yes m_buys m_ends m_carried m_row rm m_keptRow m_likeGets m_likePrice m_ahead, cI aC m_kept 100 kq] t.heap ∧ va_K (dC, dI) classes (TY aC) t ∧ va_D (va_A [oX12 g0 m_refused m_kind m_figure m_weight m_got m_setting men msy mdn m_tape m_letter m_letterAt m_told tp mat stm m_kept him 1 (nI c0) m_price m_offer m_gets m_yes m_buys m_ends m_carried m_row rm m_keptRow m_likeGets m_likePrice m_ahead, cI aC m_kept 100 kp] sz) [oX12 g0 m_refused m_kind m_figure m_weight m_got m_setting men msy mdn m_tape m_letter m_letterAt m_told tp mat stm m_kept him 1 (nI (c0 + 1)) m_price m_offer m_gets m_yes m_buys m_ends m_carried m_row rm m_keptRow m_likeGets m_likePrice m_ahead, cI aC m_kept 100 kq]) (va_A [oX12 g0 m_refused m_kind m_figure m_weight m_got m_setting men msy mdn m_tape m_letter m_letterAt m_told tp mat stm m_kept him 1 (nI c0) m_price m_offer m_gets m_yes m_buys m_ends m_carried m_row rm m_keptRow m_likeGets m_likePrice m_ahead, cI aC m_kept 100 kp] sz)) 0 0 (va_A [oX12 g0 m_refused m_kind m_figure m_weight m_got m_setting men msy mdn m_tape m_letter m_letterAt m_told tp mat stm m_kept him 1 (nI c0) m_price m_offer m_gets m_yes m_buys m_ends m_carried m_row rm m_keptRow m_likeGets m_likePrice m_ahead, cI aC m_kept 100 kp] sz) := by
  refine Met.ofW (cc := cX12_passOne) (maxL := 3) (ret := (some .int)) (by decide) rfl ?_
  intro p e s m args below meth c s₁ B hml hv
  obtain ⟨rfl, hsz, hP, hK, hD0, hN⟩ := hv
  have hx := B.exec
  have hb := B.bytes
  have hr := B.returns
  have hts0 := atoms_spec (ws := (wW yX12_passOne cX12_passOne 3 (some .int))) B.pre
  have hts : ∀ w9 ∈ lw_G, w9.before ([Value.ref g0, Value.int v] : List Value).toArray s = true := fun w9 h9 => hts0 w9 (List.mem_cons_of_mem _ h9)
  have hown : s.vm.findClass RX12 = some m.cls := findClass_of_methodNamed (x := yX12_passOne) B.named
  have hlocks := B.notSynchronized
  subst hsz
  have hD := hD0.self (sz := s.heap.size)
  generalize hAe : va_A [oX12 g0 m_refused m_kind m_figure m_weight m_got m_setting men msy mdn m_tape m_letter m_letterAt m_told tp mat stm m_kept him 1 (nI c0) m_price m_offer m_gets m_yes m_buys m_ends m_carried m_row rm m_keptRow m_likeGets m_likePrice m_ahead, cI aC m_kept 100 kp] s.heap.size = A at hD ⊢
  have hA : ∀ q : Nat, s.heap.size ≤ q → A q := fun q h => by rw [← hAe]; exact Or.inr h
  obtain ⟨H, hHe⟩ : ∃ H : Heap, H = s.heap := ⟨_, rfl⟩
  have hS : va_S A s.heap H [] := by rw [hHe]; exact va_S.rf
  have hP : va_P (dC, dI) classes [oX12 g0 m_refused m_kind m_figure m_weight m_got m_setting men msy mdn m_tape m_letter m_letterAt m_told tp mat stm m_kept him 1 (nI c0) m_price m_offer m_gets m_yes m_buys m_ends m_carried m_row rm m_keptRow m_likeGets m_likePrice m_ahead, cI aC m_kept 100 kp] H := by rw [hHe]; exact hP
  have hl := lv_entry ([Value.ref g0, Value.int v]) (n := 3) (Nat.le_of_ble_eq_true rfl)
  rw [lg_entry_eq]
  generalize (lg_sl ([Value.ref g0, Value.int v]) ++ List.replicate (3 - (lg_sl ([Value.ref g0, Value.int v])).length) Slot.unset).toArray = ls at hl ⊢
  have hl : lv_has ls 3 [(0, Value.ref g0), (1, Value.int v)] := hl
  rw [← hHe]
  refine lv_aload_n hx hb dX12_passOne_0 rfl (lv_at hl 0 rfl) ?_
  refine va_get (D := (dC, dI)) (ci := 12) (v := Value.int 1) (C := RX12) (T := TX12) (N := 33) hx hb hts inX12 hown hK hP 0 rfl rfl 18 (by decide) (hts _ (gw kw_735 rfl)) (fun _ h9 => h9) rfl dX12_passOne_1 ?_
  refine lv_if_eq (tgt := 11) hx hb dX12_passOne_4 (by decide) (fun c_1 => ?_) (fun c_1 => ?_)
  · exact absurd c_1 (by decide)
  · refine lv_iload_n hx hb dX12_passOne_7 rfl (lv_at hl 1 rfl) ?_
    refine lv_goto (tgt := 20) hx hb dX12_passOne_8 (by decide) ?_
    refine lv_istore_n (lv' := [(2, Value.int v), (0, Value.ref g0), (1, Value.int v)]) hx hb dX12_passOne_20 rfl hl (by decide) rfl (fun ls hl => ?_)
    refine lv_aload_n hx hb dX12_passOne_21 rfl (lv_at hl 1 rfl) ?_
    refine va_get (D := (dC, dI)) (ci := 12) (v := Value.int 1) (C := RX12) (T := TX12) (N := 33) hx hb hts inX12 hown hK hP 0 rfl rfl 18 (by decide) (hts _ (gw kw_735 rfl)) (fun _ h9 => h9) rfl dX12_passOne_22 ?_
    refine lv_if_eq (tgt := 38) hx hb dX12_passOne_25 (by decide) (fun c_2 => ?_) (fun c_2 => ?_)
    · exact absurd c_2 (by decide)
    · refine lv_aload_n hx hb dX12_passOne_28 rfl (lv_at hl 1 rfl) ?_
      refine va_get (D := (dC, dI)) (ci := 12) (v := Value.ref m_kept) (C := RX12) (T := TX12) (N := 33) hx hb hts inX12 hown hK hP 0 rfl rfl 16 (by decide) (hts _ (gw kw_733 rfl)) (fun _ h9 => h9) rfl dX12_passOne_29 ?_
      refine lv_aload_n hx hb dX12_passOne_32 rfl (lv_at hl 1 rfl) ?_
      refine va_get (D := (dC, dI)) (ci := 12) (v := Value.int (nI c0)) (C := RX12) (T := TX12) (N := 33) hx hb hts inX12 hown hK hP 0 rfl rfl 19 (by decide) (hts _ (gw kw_736 rfl)) (fun _ h9 => h9) rfl dX12_passOne_33 ?_
      refine lv_iload_n hx hb dX12_passOne_36 rfl (lv_at hl 2 rfl) ?_
      have h_3 : vp_in (nI c0) 100 := vp_in_nI (by omega) (by omega)
      refine va_iast hx hb hK hP hD hS 1 0 rfl rfl h_3 dX12_passOne_37 (fun H locs hP hD hS => ?_)
      obtain ⟨f_4, e_f_4⟩ : ∃ y : Nat → Int32, y = upd kp (nI c0 : Int32).toNatClampNeg v := ⟨_, rfl⟩
      have hpd9 : PDx (dC, dI) classes A H [oX12 g0 m_refused m_kind m_figure m_weight m_got m_setting men msy mdn m_tape m_letter m_letterAt m_told tp mat stm m_kept him 1 (nI c0) m_price m_offer m_gets m_yes m_buys m_ends m_carried m_row rm m_keptRow m_likeGets m_likePrice m_ahead, cI aC m_kept 100 f_4] := by rw [e_f_4]; exact ⟨hP, hD⟩
      have hP := hpd9.1
      have hD := hpd9.2
      clear hpd9
      refine lv_aload_n hx hb dX12_passOne_38 rfl (lv_at hl 1 rfl) ?_
      refine lv_dup hx hb dX12_passOne_39 rfl ?_
      refine va_get (D := (dC, dI)) (ci := 12) (v := Value.int (nI c0)) (C := RX12) (T := TX12) (N := 33) hx hb hts inX12 hown hK hP 0 rfl rfl 19 (by decide) (hts _ (gw kw_736 rfl)) (fun _ h9 => h9) rfl dX12_passOne_40 ?_
      refine lv_iconst (v := 1) hx hb dX12_passOne_43 (by decide) ?_
      refine lv_iadd hx hb dX12_passOne_44 ?_
      refine lv_topi (fun x_5 e_5 => ?_)
      refine va_put (D := (dC, dI)) (ci := 12) (v := Value.int x_5) (ty := .int) (C := RX12) (T := TX12) (N := 33) hx hb hts inX12 tyX12 tyX12_ok nmX12 hown hK hP hD hS 0 rfl rfl 19 (by decide) (hts _ (gw kw_736 rfl)) (fun _ h9 => h9) rfl (by decide +kernel) rfl rfl (Nat.le_of_ble_eq_true rfl) dX12_passOne_45 (fun H locs hP hD hS => ?_)
      have hpd9 : PDx (dC, dI) classes A H [oX12 g0 m_refused m_kind m_figure m_weight m_got m_setting men msy mdn m_tape m_letter m_letterAt m_told tp mat stm m_kept him 1 x_5 m_price m_offer m_gets m_yes m_buys m_ends m_carried m_row rm m_keptRow m_likeGets m_likePrice m_ahead, cI aC m_kept 100 f_4] := ⟨hP, hD⟩
      have hP := hpd9.1
      have hD := hpd9.2
      clear hpd9
      have h9 : x_5 = nI (c0 + 1) := by rw [e_5, nI_1]
      subst h9
      refine lv_iload_n hx hb dX12_passOne_48 rfl (lv_at hl 0 rfl) ?_
      have hpd9 := pd_N (cx := [oX12 g0 m_refused m_kind m_figure m_weight m_got m_setting men msy mdn m_tape m_letter m_letterAt m_told tp mat stm m_kept him 1 (nI (c0 + 1)) m_price m_offer m_gets m_yes m_buys m_ends m_carried m_row rm m_keptRow m_likeGets m_likePrice m_ahead, cI aC m_kept 100 f_4]) hP hD [0, 1] (by decide) rfl
      have hP9 := hpd9.1
      have hD9 := hpd9.2
      refine W.widen (k := 0) (n := 0) (by omega) (by omega) ?_
      exact W.iret (v := v) hx hb hr (fun t ht hW => ⟨⟨v, (f_4), rfl, ⟨rfl, by rw [e_f_4, nI_clamp (by omega)]⟩, by rw [ht]; exact hP9, va_K.moved hW.alike hK, hD9⟩, hS.F ht⟩) hS.2.2 dX12_passOne_49

set_option maxHeartbeats 1000000 in
set_option maxRecDepth 100000 in
/-- X12_passes_l -/
theorem c_X12_passes_l (l : Launch) (dC : Nat → ClassId) (dI : Nat → Nat → Nat) (aC : Nat → ClassId) (sz : Nat) (g0 : Nat) (m_refused : Nat) (m_kind : Nat) (m_figure : Nat) (m_weight : Nat) (m_got : Nat) (m_setting : Nat) (m_tape : Nat) (m_letter : Nat) (m_letterAt : Nat) (m_told : Nat) (m_kept : Nat) (m_price : Nat) (m_offer : Nat) (m_gets : Nat) (m_yes : Nat) (m_buys : Nat) (m_ends : Nat) (m_carried : Nat) (m_row : Nat) (m_keptRow : Nat) (m_likeGets : Nat) (m_likePrice : Nat) (m_ahead : Nat) (men : Int32) (msy : Int32) (mdn : Int32) (tp : Int32) (mat : Int32) (stm : Int32) (him : Int32) (rm : Int32) (oa : Nat) (nA : Nat) (c0 : Nat) (of : Nat → Int32) (kp : Nat → Int32) (hc : c0 + nA ≤ 100) : Met l yX12_passes (wW yX12_passes cX12_passes 3 (none : Option FieldType)) ({ frames := 0, cells := 0, slots := 0, locals := 0 } : Room) (va_Pc [Value.ref g0, Value.ref oa] (fun U => U.heap.size = sz ∧ va_P (dC, dI) classes [oX12 g0 m_refused m_kind m_figure m_weight m_got m_setting men msy mdn m_tape m_letter m_letterAt m_told tp mat stm m_kept him 0 (nI c0) m_price m_offer m_gets m_yes m_buys m_ends m_carried m_row rm m_keptRow m_likeGets m_likePrice m_ahead, cI aC m_kept 100 kp, cI aC oa nA of] U.heap ∧ va_K (dC, dI) classes (TY aC) U ∧ va_D (fun _ => True) [oX12 g0 m_refused m_kind m_figure m_weight m_got m_setting men msy mdn m_tape m_letter m_letterAt m_told tp mat stm m_kept him 0 (nI c0) m_price m_offer m_gets m_yes m_buys m_ends m_carried m_row rm m_keptRow m_likeGets m_likePrice m_ahead, cI aC m_kept 100 kp, cI aC oa nA of] ∧ NX U)) (va_Qv (fun (kq : Nat → Int32) => ∀ j, j < nA → kq j = kp (c0 + j)) (fun (kq : Nat → Int32) (t : State) => va_P (dC, dI) classes [oX12 g0 m_refused m_kind m_figure m_weight m_got m_setting men msy mdn m_tape m_letter m_letterAt m_told tp mat stm m_kept him 0 (nI (c0 + nA)) m_price m_offer m_gets m_yes m_buys m_ends m_carried m_row rm m_keptRow m_likeGets m_likePrice m_ahead, cI aC m_kept 100 kp, cI aC oa nA kq] t.heap ∧ va_K (dC, dI) classes (TY aC) t ∧ va_D (va_A [oX12 g0 m_refused m_kind m_figure m_weight m_got m_setting men msy mdn m_tape m_letter m_letterAt m_told tp mat stm m_kept him 0 (nI c0) m_price m_offer m_gets m_yes m_buys m_ends m_carried m_row rm m_keptRow m_likeGets m_likePrice m_ahead, cI aC m_kept 100 kp, cI aC oa nA of] sz) [oX12 g0 m_refused m_kind m_figure m_weight m_got m_setting men msy mdn m_tape m_letter m_letterAt m_told tp mat stm m_kept him 0 (nI (c0 + nA)) m_price m_offer m_gets m_yes m_buys m_ends m_carried m_row rm m_keptRow m_likeGets m_likePrice m_ahead, cI aC m_kept 100 kp, cI aC oa nA kq]) (va_A [oX12 g0 m_refused m_kind m_figure m_weight m_got m_setting men msy mdn m_tape m_letter m_letterAt m_told tp mat stm m_kept him 0 (nI c0) m_price m_offer m_gets m_yes m_buys m_ends m_carried m_row rm m_keptRow m_likeGets m_likePrice m_ahead, cI aC m_kept 100 kp, cI aC oa nA of] sz)) 0 0 (va_A [oX12 g0 m_refused m_kind m_figure m_weight m_got m_setting men msy mdn m_tape m_letter m_letterAt m_told tp mat stm m_kept him 0 (nI c0) m_price m_offer m_gets m_yes m_buys m_ends m_carried m_row rm m_keptRow m_likeGets m_likePrice m_ahead, cI aC m_kept 100 kp, cI aC oa nA of] sz) := by
  refine Met.ofW (cc := cX12_passes) (maxL := 3) (ret := (none : Option FieldType)) (by decide) rfl ?_
  intro p e s m args below meth c s₁ B hml hv
  obtain ⟨rfl, hsz, hP, hK, hD0, hN⟩ := hv
  have hx := B.exec
  have hb := B.bytes
  have hr := B.returns
  have hts0 := atoms_spec (ws := (wW yX12_passes cX12_passes 3 (none : Option FieldType))) B.pre
  have hts : ∀ w9 ∈ lw_G, w9.before ([Value.ref g0, Value.ref oa] : List Value).toArray s = true := fun w9 h9 => hts0 w9 (List.mem_cons_of_mem _ h9)
  have hown : s.vm.findClass RX12 = some m.cls := findClass_of_methodNamed (x := yX12_passes) B.named
  have hlocks := B.notSynchronized
  subst hsz
  have hD := hD0.self (sz := s.heap.size)
  generalize hAe : va_A [oX12 g0 m_refused m_kind m_figure m_weight m_got m_setting men msy mdn m_tape m_letter m_letterAt m_told tp mat stm m_kept him 0 (nI c0) m_price m_offer m_gets m_yes m_buys m_ends m_carried m_row rm m_keptRow m_likeGets m_likePrice m_ahead, cI aC m_kept 100 kp, cI aC oa nA of] s.heap.size = A at hD ⊢
  have hA : ∀ q : Nat, s.heap.size ≤ q → A q := fun q h => by rw [← hAe]; exact Or.inr h
  obtain ⟨H, hHe⟩ : ∃ H : Heap, H = s.heap := ⟨_, rfl⟩
  have hS : va_S A s.heap H [] := by rw [hHe]; exact va_S.rf
  have hP : va_P (dC, dI) classes [oX12 g0 m_refused m_kind m_figure m_weight m_got m_setting men msy mdn m_tape m_letter m_letterAt m_told tp mat stm m_kept him 0 (nI c0) m_price m_offer m_gets m_yes m_buys m_ends m_carried m_row rm m_keptRow m_likeGets m_likePrice m_ahead, cI aC m_kept 100 kp, cI aC oa nA of] H := by rw [hHe]; exact hP
  have hl := lv_entry ([Value.ref g0, Value.ref oa]) (n := 3) (Nat.le_of_ble_eq_true rfl)
  rw [lg_entry_eq]
  generalize (lg_sl ([Value.ref g0, Value.ref oa]) ++ List.replicate (3 - (lg_sl ([Value.ref g0, Value.ref oa])).length) Slot.unset).toArray = ls at hl ⊢
  have hl : lv_has ls 3 [(0, Value.ref g0), (1, Value.ref oa)] := hl
  rw [← hHe]
  refine lv_iconst (v := 0) hx hb dX12_passes_0 (by decide) ?_
  refine lv_istore_n (lv' := [(2, Value.int 0), (0, Value.ref g0), (1, Value.ref oa)]) hx hb dX12_passes_1 rfl hl (by decide) rfl (fun ls hl => ?_)
  have lp_2 : ∀ (fu : Nat) (k : Nat) (kc : Nat → Int32) (hfu : nA - k < fu) (hk : k ≤ nA) (hkc : ∀ j, j < k → kc j = kp (c0 + j)) (H : Heap) (locs : List Loc) (ls : Array Slot), va_P (dC, dI) classes [oX12 g0 m_refused m_kind m_figure m_weight m_got m_setting men msy mdn m_tape m_letter m_letterAt m_told tp mat stm m_kept him 0 (nI (c0 + k)) m_price m_offer m_gets m_yes m_buys m_ends m_carried m_row rm m_keptRow m_likeGets m_likePrice m_ahead, cI aC m_kept 100 kp, cI aC oa nA kc] H → va_D A [oX12 g0 m_refused m_kind m_figure m_weight m_got m_setting men msy mdn m_tape m_letter m_letterAt m_told tp mat stm m_kept him 0 (nI (c0 + k)) m_price m_offer m_gets m_yes m_buys m_ends m_carried m_row rm m_keptRow m_likeGets m_likePrice m_ahead, cI aC m_kept 100 kp, cI aC oa nA kc] → va_S A s.heap H locs → lv_has ls 3 [(0, Value.ref g0), (1, Value.ref oa), (2, Value.int (nI k))] → W p l e (headSpec (wW yX12_passes cX12_passes 3 (none : Option FieldType)) ({ frames := 0, cells := 0, slots := 0, locals := 0 } : Room)).room s m ([Value.ref g0, Value.ref oa] : List Value).toArray below meth c H locs 0 0 (MQ below (va_Qv (fun (kq : Nat → Int32) => ∀ j, j < nA → kq j = kp (c0 + j)) (fun (kq : Nat → Int32) (t : State) => va_P (dC, dI) classes [oX12 g0 m_refused m_kind m_figure m_weight m_got m_setting men msy mdn m_tape m_letter m_letterAt m_told tp mat stm m_kept him 0 (nI (c0 + nA)) m_price m_offer m_gets m_yes m_buys m_ends m_carried m_row rm m_keptRow m_likeGets m_likePrice m_ahead, cI aC m_kept 100 kp, cI aC oa nA kq] t.heap ∧ va_K (dC, dI) classes (TY aC) t ∧ va_D A [oX12 g0 m_refused m_kind m_figure m_weight m_got m_setting men msy mdn m_tape m_letter m_letterAt m_told tp mat stm m_kept him 0 (nI (c0 + nA)) m_price m_offer m_gets m_yes m_buys m_ends m_carried m_row rm m_keptRow m_likeGets m_likePrice m_ahead, cI aC m_kept 100 kp, cI aC oa nA kq]) A) ([Value.ref g0, Value.ref oa] : List Value).toArray s 0 0 A) (F0 m 2 ls []) := by
    intro fu
    induction fu with
    | zero => intro k kc hfu; exact absurd hfu (Nat.not_lt_zero _)
    | succ fu ih_2 =>
      intro k kc hfu hk hkc H locs ls hP hD hS hl
      refine lv_iload_n hx hb dX12_passes_2 rfl (lv_at hl 2 rfl) ?_
      refine lv_aload_n hx hb dX12_passes_3 rfl (lv_at hl 1 rfl) ?_
      refine va_alen (v := Int32.ofNat nA) hx hb hK hP 2 0 rfl rfl rfl dX12_passes_4 ?_
      refine lv_topi (fun x_1 e_1 => ?_)
      refine lv_icmp_ge (tgt := 58) hx hb dX12_passes_5 (by decide) (fun c_2 => ?_) (fun c_2 => ?_)
      · have hkn : k = nA := by
          rcases Nat.lt_or_ge k nA with q | q
          · exact absurd (by rw [e_1] at c_2; exact c_2) (nI_ge q (by omega))
          · omega
        subst hkn
        have hpd9 := pd_N (cx := [oX12 g0 m_refused m_kind m_figure m_weight m_got m_setting men msy mdn m_tape m_letter m_letterAt m_told tp mat stm m_kept him 0 (nI (c0 + k)) m_price m_offer m_gets m_yes m_buys m_ends m_carried m_row rm m_keptRow m_likeGets m_likePrice m_ahead, cI aC m_kept 100 kp, cI aC oa k kc]) hP hD [0, 1, 2] (by decide) rfl
        have hP9 := hpd9.1
        have hD9 := hpd9.2
        refine W.widen (k := 0) (n := 0) (by omega) (by omega) ?_
        exact W.vret hx hb hr (fun t ht hW => ⟨⟨(kc), rfl, hkc, by rw [ht]; exact hP9, va_K.moved hW.alike hK, hD9⟩, hS.F ht⟩) hS.2.2 dX12_passes_58
      · have hlt : k < nA := by
          rcases Nat.lt_or_ge k nA with q | q
          · exact q
          · exact absurd (by rw [e_1]; exact nI_le q (by omega)) c_2
        refine lv_aload_n hx hb dX12_passes_8 rfl (lv_at hl 0 rfl) ?_
        refine va_get (D := (dC, dI)) (ci := 12) (v := Value.int 0) (C := RX12) (T := TX12) (N := 33) hx hb hts inX12 hown hK hP 0 rfl rfl 18 (by decide) (hts _ (gw kw_735 rfl)) (fun _ h9 => h9) rfl dX12_passes_9 ?_
        refine lv_if_eq (tgt := 30) hx hb dX12_passes_12 (by decide) (fun c_3 => ?_) (fun c_3 => ?_)
        · refine lv_aload_n hx hb dX12_passes_30 rfl (lv_at hl 1 rfl) ?_
          refine lv_iload_n hx hb dX12_passes_31 rfl (lv_at hl 2 rfl) ?_
          refine lv_aload_n hx hb dX12_passes_32 rfl (lv_at hl 0 rfl) ?_
          refine va_get (D := (dC, dI)) (ci := 12) (v := Value.ref m_kept) (C := RX12) (T := TX12) (N := 33) hx hb hts inX12 hown hK hP 0 rfl rfl 16 (by decide) (hts _ (gw kw_733 rfl)) (fun _ h9 => h9) rfl dX12_passes_33 ?_
          refine lv_aload_n hx hb dX12_passes_36 rfl (lv_at hl 0 rfl) ?_
          refine va_get (D := (dC, dI)) (ci := 12) (v := Value.int (nI (c0 + k))) (C := RX12) (T := TX12) (N := 33) hx hb hts inX12 hown hK hP 0 rfl rfl 19 (by decide) (hts _ (gw kw_736 rfl)) (fun _ h9 => h9) rfl dX12_passes_37 ?_
          have h_4 : vp_in (nI (c0 + k)) 100 := vp_in_nI (by omega) (by omega)
          refine va_iald hx hb hK hP 1 0 rfl rfl h_4 dX12_passes_40 ?_
          refine lv_topi (fun x_5 e_5 => ?_)
          have h_6 : vp_in (nI k) nA := vp_in_nI (by omega) (by omega)
          refine va_iast hx hb hK hP hD hS 2 0 rfl rfl h_6 dX12_passes_41 (fun H locs hP hD hS => ?_)
          obtain ⟨f_7, e_f_7⟩ : ∃ y : Nat → Int32, y = upd kc (nI k : Int32).toNatClampNeg x_5 := ⟨_, rfl⟩
          have hpd9 : PDx (dC, dI) classes A H [oX12 g0 m_refused m_kind m_figure m_weight m_got m_setting men msy mdn m_tape m_letter m_letterAt m_told tp mat stm m_kept him 0 (nI (c0 + k)) m_price m_offer m_gets m_yes m_buys m_ends m_carried m_row rm m_keptRow m_likeGets m_likePrice m_ahead, cI aC m_kept 100 kp, cI aC oa nA f_7] := by rw [e_f_7]; exact ⟨hP, hD⟩
          have hP := hpd9.1
          have hD := hpd9.2
          clear hpd9
          refine lv_aload_n hx hb dX12_passes_42 rfl (lv_at hl 0 rfl) ?_
          refine lv_dup hx hb dX12_passes_43 rfl ?_
          refine va_get (D := (dC, dI)) (ci := 12) (v := Value.int (nI (c0 + k))) (C := RX12) (T := TX12) (N := 33) hx hb hts inX12 hown hK hP 0 rfl rfl 19 (by decide) (hts _ (gw kw_736 rfl)) (fun _ h9 => h9) rfl dX12_passes_44 ?_
          refine lv_iconst (v := 1) hx hb dX12_passes_47 (by decide) ?_
          refine lv_iadd hx hb dX12_passes_48 ?_
          refine lv_topi (fun x_8 e_8 => ?_)
          refine va_put (D := (dC, dI)) (ci := 12) (v := Value.int x_8) (ty := .int) (C := RX12) (T := TX12) (N := 33) hx hb hts inX12 tyX12 tyX12_ok nmX12 hown hK hP hD hS 0 rfl rfl 19 (by decide) (hts _ (gw kw_736 rfl)) (fun _ h9 => h9) rfl (by decide +kernel) rfl rfl (Nat.le_of_ble_eq_true rfl) dX12_passes_49 (fun H locs hP hD hS => ?_)
          have hpd9 : PDx (dC, dI) classes A H [oX12 g0 m_refused m_kind m_figure m_weight m_got m_setting men msy mdn m_tape m_letter m_letterAt m_told tp mat stm m_kept him 0 x_8 m_price m_offer m_gets m_yes m_buys m_ends m_carried m_row rm m_keptRow m_likeGets m_likePrice m_ahead, cI aC m_kept 100 kp, cI aC oa nA f_7] := ⟨hP, hD⟩
          have hP := hpd9.1
          have hD := hpd9.2
          clear hpd9
          have h9 : x_8 = nI (c0 + (k + 1)) := by rw [e_8, nI_1]; rfl
          subst h9
          obtain ⟨x_9, e_9⟩ : ∃ y : Int32, y = (nI k) + 1 := ⟨_, rfl⟩
          refine lv_iinc (v := x_9) (lv' := [(2, Value.int x_9), (0, Value.ref g0), (1, Value.ref oa)]) hx hb dX12_passes_52 hl (k := 2) rfl (by rw [e_9]; rfl) (by decide) rfl (fun ls hl => ?_)
          have h9 : x_9 = nI (k + 1) := by rw [e_9, nI_1]
          subst h9
          refine lv_goto (tgt := 2) hx hb dX12_passes_55 (by decide) ?_
          exact ih_2 (k + 1) f_7 (by omega) (by omega) (fun j hj => by rw [e_f_7, nI_clamp (by omega)]; by_cases e : j = k <;> first | (rw [e, pk_us, e_5, nI_clamp (by omega)]; done) | (rw [pk_un e]; exact hkc j (by omega))) _ _ _ (hP.sub [0, 1, 2] rfl) (hD.sub [0, 1, 2] (by decide) rfl) hS (lv_sub hl [1, 2, 0] rfl)
        · exact absurd rfl c_3
  exact lp_2 ((nA - 0) + 1) 0 of (Nat.lt_succ_self _) (Nat.zero_le _) (fun j hj => by omega) _ _ _ (hP.sub [0, 1, 2] rfl) (hD.sub [0, 1, 2] (by decide) rfl) hS (lv_sub hl [1, 2, 0] rfl)

set_option maxHeartbeats 1000000 in
set_option maxRecDepth 100000 in
/-- X12_passOne_l -/
theorem c_X12_passOne_l (l : Launch) (dC : Nat → ClassId) (dI : Nat → Nat → Nat) (aC : Nat → ClassId) (sz : Nat) (g0 : Nat) (m_refused : Nat) (m_kind : Nat) (m_figure : Nat) (m_weight : Nat) (m_got : Nat) (m_setting : Nat) (m_tape : Nat) (m_letter : Nat) (m_letterAt : Nat) (m_told : Nat) (m_kept : Nat) (m_price : Nat) (m_offer : Nat) (m_gets : Nat) (m_yes : Nat) (m_buys : Nat) (m_ends : Nat) (m_carried : Nat) (m_row : Nat) (m_keptRow : Nat) (m_likeGets : Nat) (m_likePrice : Nat) (m_ahead : Nat) (men : Int32) (msy : Int32) (mdn : Int32) (tp : Int32) (mat : Int32) (stm : Int32) (him : Int32) (rm : Int32) (v : Int32) (c0 : Nat) (kp : Nat → Int32) (hc : c0 < 100) : Met l yX12_passOne (wW yX12_passOne cX12_passOne 3 (some .int)) ({ frames := 0, cells := 0, slots := 0, locals := 0 } : Room) (va_Pc [Value.ref g0, Value.int v] (fun U => U.heap.size = sz ∧ va_P (dC, dI) classes [oX12 g0 m_refused m_kind m_figure m_weight m_got m_setting men msy mdn m_tape m_letter m_letterAt m_told tp mat stm m_kept him 0 (nI c0) m_price m_offer m_gets m_yes m_buys m_ends m_carried m_row rm m_keptRow m_likeGets m_likePrice m_ahead, cI aC m_kept 100 kp] U.heap ∧ va_K (dC, dI) classes (TY aC) U ∧ va_D (fun _ => True) [oX12 g0 m_refused m_kind m_figure m_weight m_got m_setting men msy mdn m_tape m_letter m_letterAt m_told tp mat stm m_kept him 0 (nI c0) m_price m_offer m_gets m_yes m_buys m_ends m_carried m_row rm m_keptRow m_likeGets m_likePrice m_ahead, cI aC m_kept 100 kp] ∧ NX U)) (va_Qi (fun (r : Int32) (_ : Unit) => r = kp c0) (fun (_ : Unit) (t : State) => va_P (dC, dI) classes [oX12 g0 m_refused m_kind m_figure m_weight m_got m_setting men msy mdn m_tape m_letter m_letterAt m_told tp mat stm m_kept him 0 (nI (c0 + 1)) m_price m_offer m_gets m_yes m_buys m_ends m_carried m_row rm m_keptRow m_likeGets m_likePrice m_ahead, cI aC m_kept 100 kp] t.heap ∧ va_K (dC, dI) classes (TY aC) t ∧ va_D (va_A [oX12 g0 m_refused m_kind m_figure m_weight m_got m_setting men msy mdn m_tape m_letter m_letterAt m_told tp mat stm m_kept him 0 (nI c0) m_price m_offer m_gets m_yes m_buys m_ends m_carried m_row rm m_keptRow m_likeGets m_likePrice m_ahead, cI aC m_kept 100 kp] sz) [oX12 g0 m_refused m_kind m_figure m_weight m_got m_setting men msy mdn m_tape m_letter m_letterAt m_told tp mat stm m_kept him 0 (nI (c0 + 1)) m_price m_offer m_gets m_yes m_buys m_ends m_carried m_row rm m_keptRow m_likeGets m_likePrice m_ahead, cI aC m_kept 100 kp]) (va_A [oX12 g0 m_refused m_kind m_figure m_weight m_got m_setting men msy mdn m_tape m_letter m_letterAt m_told tp mat stm m_kept him 0 (nI c0) m_price m_offer m_gets m_yes m_buys m_ends m_carried m_row rm m_keptRow m_likeGets m_likePrice m_ahead, cI aC m_kept 100 kp] sz)) 0 0 (va_A [oX12 g0 m_refused m_kind m_figure m_weight m_got m_setting men msy mdn m_tape m_letter m_letterAt m_told tp mat stm m_kept him 0 (nI c0) m_price m_offer m_gets m_yes m_buys m_ends m_carried m_row rm m_keptRow m_likeGets m_likePrice m_ahead, cI aC m_kept 100 kp] sz) := by
  refine Met.ofW (cc := cX12_passOne) (maxL := 3) (ret := (some .int)) (by decide) rfl ?_
  intro p e s m args below meth c s₁ B hml hv
  obtain ⟨rfl, hsz, hP, hK, hD0, hN⟩ := hv
  have hx := B.exec
  have hb := B.bytes
  have hr := B.returns
  have hts0 := atoms_spec (ws := (wW yX12_passOne cX12_passOne 3 (some .int))) B.pre
  have hts : ∀ w9 ∈ lw_G, w9.before ([Value.ref g0, Value.int v] : List Value).toArray s = true := fun w9 h9 => hts0 w9 (List.mem_cons_of_mem _ h9)
  have hown : s.vm.findClass RX12 = some m.cls := findClass_of_methodNamed (x := yX12_passOne) B.named
  have hlocks := B.notSynchronized
  subst hsz
  have hD := hD0.self (sz := s.heap.size)
  generalize hAe : va_A [oX12 g0 m_refused m_kind m_figure m_weight m_got m_setting men msy mdn m_tape m_letter m_letterAt m_told tp mat stm m_kept him 0 (nI c0) m_price m_offer m_gets m_yes m_buys m_ends m_carried m_row rm m_keptRow m_likeGets m_likePrice m_ahead, cI aC m_kept 100 kp] s.heap.size = A at hD ⊢
  have hA : ∀ q : Nat, s.heap.size ≤ q → A q := fun q h => by rw [← hAe]; exact Or.inr h
  obtain ⟨H, hHe⟩ : ∃ H : Heap, H = s.heap := ⟨_, rfl⟩
  have hS : va_S A s.heap H [] := by rw [hHe]; exact va_S.rf
  have hP : va_P (dC, dI) classes [oX12 g0 m_refused m_kind m_figure m_weight m_got m_setting men msy mdn m_tape m_letter m_letterAt m_told tp mat stm m_kept him 0 (nI c0) m_price m_offer m_gets m_yes m_buys m_ends m_carried m_row rm m_keptRow m_likeGets m_likePrice m_ahead, cI aC m_kept 100 kp] H := by rw [hHe]; exact hP
  have hl := lv_entry ([Value.ref g0, Value.int v]) (n := 3) (Nat.le_of_ble_eq_true rfl)
  rw [lg_entry_eq]
  generalize (lg_sl ([Value.ref g0, Value.int v]) ++ List.replicate (3 - (lg_sl ([Value.ref g0, Value.int v])).length) Slot.unset).toArray = ls at hl ⊢
  have hl : lv_has ls 3 [(0, Value.ref g0), (1, Value.int v)] := hl
  rw [← hHe]
  refine lv_aload_n hx hb dX12_passOne_0 rfl (lv_at hl 0 rfl) ?_
  refine va_get (D := (dC, dI)) (ci := 12) (v := Value.int 0) (C := RX12) (T := TX12) (N := 33) hx hb hts inX12 hown hK hP 0 rfl rfl 18 (by decide) (hts _ (gw kw_735 rfl)) (fun _ h9 => h9) rfl dX12_passOne_1 ?_
  refine lv_if_eq (tgt := 11) hx hb dX12_passOne_4 (by decide) (fun c_1 => ?_) (fun c_1 => ?_)
  · refine lv_aload_n hx hb dX12_passOne_11 rfl (lv_at hl 0 rfl) ?_
    refine va_get (D := (dC, dI)) (ci := 12) (v := Value.ref m_kept) (C := RX12) (T := TX12) (N := 33) hx hb hts inX12 hown hK hP 0 rfl rfl 16 (by decide) (hts _ (gw kw_733 rfl)) (fun _ h9 => h9) rfl dX12_passOne_12 ?_
    refine lv_aload_n hx hb dX12_passOne_15 rfl (lv_at hl 0 rfl) ?_
    refine va_get (D := (dC, dI)) (ci := 12) (v := Value.int (nI c0)) (C := RX12) (T := TX12) (N := 33) hx hb hts inX12 hown hK hP 0 rfl rfl 19 (by decide) (hts _ (gw kw_736 rfl)) (fun _ h9 => h9) rfl dX12_passOne_16 ?_
    have h_2 : vp_in (nI c0) 100 := vp_in_nI (by omega) (by omega)
    refine va_iald hx hb hK hP 1 0 rfl rfl h_2 dX12_passOne_19 ?_
    refine lv_topi (fun x_3 e_3 => ?_)
    refine lv_istore_n (lv' := [(2, Value.int x_3), (0, Value.ref g0), (1, Value.int v)]) hx hb dX12_passOne_20 rfl hl (by decide) rfl (fun ls hl => ?_)
    refine lv_aload_n hx hb dX12_passOne_21 rfl (lv_at hl 1 rfl) ?_
    refine va_get (D := (dC, dI)) (ci := 12) (v := Value.int 0) (C := RX12) (T := TX12) (N := 33) hx hb hts inX12 hown hK hP 0 rfl rfl 18 (by decide) (hts _ (gw kw_735 rfl)) (fun _ h9 => h9) rfl dX12_passOne_22 ?_
    refine lv_if_eq (tgt := 38) hx hb dX12_passOne_25 (by decide) (fun c_4 => ?_) (fun c_4 => ?_)
    · refine lv_aload_n hx hb dX12_passOne_38 rfl (lv_at hl 1 rfl) ?_
      refine lv_dup hx hb dX12_passOne_39 rfl ?_
      refine va_get (D := (dC, dI)) (ci := 12) (v := Value.int (nI c0)) (C := RX12) (T := TX12) (N := 33) hx hb hts inX12 hown hK hP 0 rfl rfl 19 (by decide) (hts _ (gw kw_736 rfl)) (fun _ h9 => h9) rfl dX12_passOne_40 ?_
      refine lv_iconst (v := 1) hx hb dX12_passOne_43 (by decide) ?_
      refine lv_iadd hx hb dX12_passOne_44 ?_
      refine lv_topi (fun x_5 e_5 => ?_)
      refine va_put (D := (dC, dI)) (ci := 12) (v := Value.int x_5) (ty := .int) (C := RX12) (T := TX12) (N := 33) hx hb hts inX12 tyX12 tyX12_ok nmX12 hown hK hP hD hS 0 rfl rfl 19 (by decide) (hts _ (gw kw_736 rfl)) (fun _ h9 => h9) rfl (by decide +kernel) rfl rfl (Nat.le_of_ble_eq_true rfl) dX12_passOne_45 (fun H locs hP hD hS => ?_)
      have hpd9 : PDx (dC, dI) classes A H [oX12 g0 m_refused m_kind m_figure m_weight m_got m_setting men msy mdn m_tape m_letter m_letterAt m_told tp mat stm m_kept him 0 x_5 m_price m_offer m_gets m_yes m_buys m_ends m_carried m_row rm m_keptRow m_likeGets m_likePrice m_ahead, cI aC m_kept 100 kp] := ⟨hP, hD⟩
      have hP := hpd9.1
      have hD := hpd9.2
      clear hpd9
      have h9 : x_5 = nI (c0 + 1) := by rw [e_5, nI_1]
      subst h9
      refine lv_iload_n hx hb dX12_passOne_48 rfl (lv_at hl 0 rfl) ?_
      have hpd9 := pd_N (cx := [oX12 g0 m_refused m_kind m_figure m_weight m_got m_setting men msy mdn m_tape m_letter m_letterAt m_told tp mat stm m_kept him 0 (nI (c0 + 1)) m_price m_offer m_gets m_yes m_buys m_ends m_carried m_row rm m_keptRow m_likeGets m_likePrice m_ahead, cI aC m_kept 100 kp]) hP hD [0, 1] (by decide) rfl
      have hP9 := hpd9.1
      have hD9 := hpd9.2
      refine W.widen (k := 0) (n := 0) (by omega) (by omega) ?_
      exact W.iret (v := x_3) hx hb hr (fun t ht hW => ⟨⟨x_3, (), rfl, by rw [e_3, nI_clamp (by omega)], by rw [ht]; exact hP9, va_K.moved hW.alike hK, hD9⟩, hS.F ht⟩) hS.2.2 dX12_passOne_49
    · exact absurd rfl c_4
  · exact absurd rfl c_1

set_option maxHeartbeats 1000000 in
set_option maxRecDepth 100000 in
/-- X12_passesAll_k -/
theorem c_X12_passesAll_k (l : Launch) (dC : Nat → ClassId) (dI : Nat → Nat → Nat) (aC : Nat → ClassId) (sz : Nat) (g0 : Nat) (m_refused : Nat) (m_kind : Nat) (m_figure : Nat) (m_weight : Nat) (m_got : Nat) (m_setting : Nat) (m_tape : Nat) (m_letter : Nat) (m_letterAt : Nat) (m_told : Nat) (m_kept : Nat) (m_price : Nat) (m_offer : Nat) (m_gets : Nat) (m_yes : Nat) (m_buys : Nat) (m_ends : Nat) (m_carried : Nat) (m_row : Nat) (m_keptRow : Nat) (m_likeGets : Nat) (m_likePrice : Nat) (m_ahead : Nat) (men : Int32) (msy : Int32) (mdn : Int32) (tp : Int32) (mat : Int32) (stm : Int32) (him : Int32) (ki : Int32) (crs : Int32) (rm : Int32) (kp : Nat → Int32) (wh : Nat) (kf : Nat → Int32) (ff : Nat → Int32) (wf : Nat → Int32) (pf : Nat → Int32) (stf : Nat → Int32) (hwh : wh ≤ 1) : Met l yX12_passesAll (wW yX12_passesAll cX12_passesAll 3 (none : Option FieldType)) ({ frames := 1, cells := 0, slots := 0, locals := 22 } : Room) (va_Pc [Value.ref g0, Value.int (nI wh), Value.int 1] (fun U => U.heap.size = sz ∧ va_P (dC, dI) classes [oX12 g0 m_refused m_kind m_figure m_weight m_got m_setting men msy mdn m_tape m_letter m_letterAt m_told tp mat stm m_kept him ki crs m_price m_offer m_gets m_yes m_buys m_ends m_carried m_row rm m_keptRow m_likeGets m_likePrice m_ahead, cI aC m_kept 100 kp, cI aC m_kind 9 kf, cI aC m_figure 9 ff, cI aC m_weight 9 wf, cI aC m_got 8 pf, cI aC m_setting 5 stf] U.heap ∧ va_K (dC, dI) classes (TY aC) U ∧ va_D (fun _ => True) [oX12 g0 m_refused m_kind m_figure m_weight m_got m_setting men msy mdn m_tape m_letter m_letterAt m_told tp mat stm m_kept him ki crs m_price m_offer m_gets m_yes m_buys m_ends m_carried m_row rm m_keptRow m_likeGets m_likePrice m_ahead, cI aC m_kept 100 kp, cI aC m_kind 9 kf, cI aC m_figure 9 ff, cI aC m_weight 9 wf, cI aC m_got 8 pf, cI aC m_setting 5 stf] ∧ NX U)) (va_Qv (fun (u : Int32 × (Nat → Int32)) => match u with | (cu2, kq) => PK (50 * wh) kq kf ff wf pf stf men msy mdn ∧ ∀ q, q < 50 * wh ∨ 50 * wh + 43 ≤ q → kq q = kp q) (fun (u : Int32 × (Nat → Int32)) (t : State) => match u with | (cu2, kq) => va_P (dC, dI) classes [oX12 g0 m_refused m_kind m_figure m_weight m_got m_setting men msy mdn m_tape m_letter m_letterAt m_told tp mat stm m_kept him 1 cu2 m_price m_offer m_gets m_yes m_buys m_ends m_carried m_row rm m_keptRow m_likeGets m_likePrice m_ahead, cI aC m_kept 100 kq, cI aC m_kind 9 kf, cI aC m_figure 9 ff, cI aC m_weight 9 wf, cI aC m_got 8 pf, cI aC m_setting 5 stf] t.heap ∧ va_K (dC, dI) classes (TY aC) t ∧ va_D (va_A [oX12 g0 m_refused m_kind m_figure m_weight m_got m_setting men msy mdn m_tape m_letter m_letterAt m_told tp mat stm m_kept him ki crs m_price m_offer m_gets m_yes m_buys m_ends m_carried m_row rm m_keptRow m_likeGets m_likePrice m_ahead, cI aC m_kept 100 kp, cI aC m_kind 9 kf, cI aC m_figure 9 ff, cI aC m_weight 9 wf, cI aC m_got 8 pf, cI aC m_setting 5 stf] sz) [oX12 g0 m_refused m_kind m_figure m_weight m_got m_setting men msy mdn m_tape m_letter m_letterAt m_told tp mat stm m_kept him 1 cu2 m_price m_offer m_gets m_yes m_buys m_ends m_carried m_row rm m_keptRow m_likeGets m_likePrice m_ahead, cI aC m_kept 100 kq, cI aC m_kind 9 kf, cI aC m_figure 9 ff, cI aC m_weight 9 wf, cI aC m_got 8 pf, cI aC m_setting 5 stf]) (va_A [oX12 g0 m_refused m_kind m_figure m_weight m_got m_setting men msy mdn m_tape m_letter m_letterAt m_told tp mat stm m_kept him ki crs m_price m_offer m_gets m_yes m_buys m_ends m_carried m_row rm m_keptRow m_likeGets m_likePrice m_ahead, cI aC m_kept 100 kp, cI aC m_kind 9 kf, cI aC m_figure 9 ff, cI aC m_weight 9 wf, cI aC m_got 8 pf, cI aC m_setting 5 stf] sz)) 0 0 (va_A [oX12 g0 m_refused m_kind m_figure m_weight m_got m_setting men msy mdn m_tape m_letter m_letterAt m_told tp mat stm m_kept him ki crs m_price m_offer m_gets m_yes m_buys m_ends m_carried m_row rm m_keptRow m_likeGets m_likePrice m_ahead, cI aC m_kept 100 kp, cI aC m_kind 9 kf, cI aC m_figure 9 ff, cI aC m_weight 9 wf, cI aC m_got 8 pf, cI aC m_setting 5 stf] sz) := by
  refine Met.ofW (cc := cX12_passesAll) (maxL := 3) (ret := (none : Option FieldType)) (by decide) rfl ?_
  intro p e s m args below meth c s₁ B hml hv
  obtain ⟨rfl, hsz, hP, hK, hD0, hN⟩ := hv
  have hx := B.exec
  have hb := B.bytes
  have hr := B.returns
  have hts0 := atoms_spec (ws := (wW yX12_passesAll cX12_passesAll 3 (none : Option FieldType))) B.pre
  have hts : ∀ w9 ∈ lw_G, w9.before ([Value.ref g0, Value.int (nI wh), Value.int 1] : List Value).toArray s = true := fun w9 h9 => hts0 w9 (List.mem_cons_of_mem _ h9)
  have hown : s.vm.findClass RX12 = some m.cls := findClass_of_methodNamed (x := yX12_passesAll) B.named
  have hlocks := B.notSynchronized
  subst hsz
  have hD := hD0.self (sz := s.heap.size)
  generalize hAe : va_A [oX12 g0 m_refused m_kind m_figure m_weight m_got m_setting men msy mdn m_tape m_letter m_letterAt m_told tp mat stm m_kept him ki crs m_price m_offer m_gets m_yes m_buys m_ends m_carried m_row rm m_keptRow m_likeGets m_likePrice m_ahead, cI aC m_kept 100 kp, cI aC m_kind 9 kf, cI aC m_figure 9 ff, cI aC m_weight 9 wf, cI aC m_got 8 pf, cI aC m_setting 5 stf] s.heap.size = A at hD ⊢
  have hA : ∀ q : Nat, s.heap.size ≤ q → A q := fun q h => by rw [← hAe]; exact Or.inr h
  obtain ⟨H, hHe⟩ : ∃ H : Heap, H = s.heap := ⟨_, rfl⟩
  have hS : va_S A s.heap H [] := by rw [hHe]; exact va_S.rf
  have hP : va_P (dC, dI) classes [oX12 g0 m_refused m_kind m_figure m_weight m_got m_setting men msy mdn m_tape m_letter m_letterAt m_told tp mat stm m_kept him ki crs m_price m_offer m_gets m_yes m_buys m_ends m_carried m_row rm m_keptRow m_likeGets m_likePrice m_ahead, cI aC m_kept 100 kp, cI aC m_kind 9 kf, cI aC m_figure 9 ff, cI aC m_weight 9 wf, cI aC m_got 8 pf, cI aC m_setting 5 stf] H := by rw [hHe]; exact hP
  have hl := lv_entry ([Value.ref g0, Value.int (nI wh), Value.int 1]) (n := 3) (Nat.le_of_ble_eq_true rfl)
  rw [lg_entry_eq]
  generalize (lg_sl ([Value.ref g0, Value.int (nI wh), Value.int 1]) ++ List.replicate (3 - (lg_sl ([Value.ref g0, Value.int (nI wh), Value.int 1])).length) Slot.unset).toArray = ls at hl ⊢
  have hl : lv_has ls 3 [(0, Value.ref g0), (1, Value.int (nI wh)), (2, Value.int 1)] := hl
  rw [← hHe]
  refine lv_aload_n hx hb dX12_passesAll_0 rfl (lv_at hl 0 rfl) ?_
  refine lv_bipush (v := 50) hx hb dX12_passesAll_1 (by decide) ?_
  refine lv_iload_n hx hb dX12_passesAll_3 rfl (lv_at hl 1 rfl) ?_
  refine lv_imul hx hb dX12_passesAll_4 ?_
  refine lv_topi (fun x_1 e_1 => ?_)
  have h9 : x_1 = nI (50 * wh) := by rw [e_1]; exact pk_mul 50 wh
  subst h9
  refine va_put (D := (dC, dI)) (ci := 12) (v := Value.int (nI (50 * wh))) (ty := .int) (C := RX12) (T := TX12) (N := 33) hx hb hts inX12 tyX12 tyX12_ok nmX12 hown hK hP hD hS 0 rfl rfl 19 (by decide) (hts _ (gw kw_736 rfl)) (fun _ h9 => h9) rfl (by decide +kernel) rfl rfl (Nat.le_of_ble_eq_true rfl) dX12_passesAll_5 (fun H locs hP hD hS => ?_)
  have hpd9 : PDx (dC, dI) classes A H [oX12 g0 m_refused m_kind m_figure m_weight m_got m_setting men msy mdn m_tape m_letter m_letterAt m_told tp mat stm m_kept him ki (nI (50 * wh)) m_price m_offer m_gets m_yes m_buys m_ends m_carried m_row rm m_keptRow m_likeGets m_likePrice m_ahead, cI aC m_kept 100 kp, cI aC m_kind 9 kf, cI aC m_figure 9 ff, cI aC m_weight 9 wf, cI aC m_got 8 pf, cI aC m_setting 5 stf] := ⟨hP, hD⟩
  have hP := hpd9.1
  have hD := hpd9.2
  clear hpd9
  refine lv_aload_n hx hb dX12_passesAll_8 rfl (lv_at hl 0 rfl) ?_
  refine lv_iload_n hx hb dX12_passesAll_9 rfl (lv_at hl 2 rfl) ?_
  refine va_put (D := (dC, dI)) (ci := 12) (v := Value.int 1) (ty := .boolean) (C := RX12) (T := TX12) (N := 33) hx hb hts inX12 tyX12 tyX12_ok nmX12 hown hK hP hD hS 0 rfl rfl 18 (by decide) (hts _ (gw kw_735 rfl)) (fun _ h9 => h9) rfl (by decide +kernel) rfl rfl (Nat.le_of_ble_eq_true rfl) dX12_passesAll_10 (fun H locs hP hD hS => ?_)
  have hpd9 : PDx (dC, dI) classes A H [oX12 g0 m_refused m_kind m_figure m_weight m_got m_setting men msy mdn m_tape m_letter m_letterAt m_told tp mat stm m_kept him 1 (nI (50 * wh)) m_price m_offer m_gets m_yes m_buys m_ends m_carried m_row rm m_keptRow m_likeGets m_likePrice m_ahead, cI aC m_kept 100 kp, cI aC m_kind 9 kf, cI aC m_figure 9 ff, cI aC m_weight 9 wf, cI aC m_got 8 pf, cI aC m_setting 5 stf] := ⟨hP, hD⟩
  have hP := hpd9.1
  have hD := hpd9.2
  clear hpd9
  refine lv_aload_n hx hb dX12_passesAll_13 rfl (lv_at hl 0 rfl) ?_
  refine lv_aload_n hx hb dX12_passesAll_14 rfl (lv_at hl 0 rfl) ?_
  refine va_get (D := (dC, dI)) (ci := 12) (v := Value.ref m_kind) (C := RX12) (T := TX12) (N := 33) hx hb hts inX12 hown hK hP 0 rfl rfl 1 (by decide) (hts _ (gw kw_718 rfl)) (fun _ h9 => h9) rfl dX12_passesAll_15 ?_
  have hpd9 := pdf_N (cx := [oX12 g0 m_refused m_kind m_figure m_weight m_got m_setting men msy mdn m_tape m_letter m_letterAt m_told tp mat stm m_kept him 1 (nI (50 * wh)) m_price m_offer m_gets m_yes m_buys m_ends m_carried m_row rm m_keptRow m_likeGets m_likePrice m_ahead, cI aC m_kept 100 kp, cI aC m_kind 9 kf]) hP hD hS hA [0, 1, 2] (by decide) rfl
  have hPc := hpd9.1
  have hDc := hpd9.2.1
  have hFc := hpd9.2.2
  clear hpd9
  refine va_callv (va_runV (As := [Value.ref m_kind]) (rest := []) ⟨hx, hb, hml, hown, hts⟩ (c_X12_passes_k l dC dI aC H.size g0 m_refused m_kind m_figure m_weight m_got m_setting m_tape m_letter m_letterAt m_told m_kept m_price m_offer m_gets m_yes m_buys m_ends m_carried m_row m_keptRow m_likeGets m_likePrice m_ahead men msy mdn tp mat stm him rm m_kind 9 (50 * wh) kf kp (by omega)) ⟨(callB_of 1 hts (gG kw_854) rfl rfl rfl (hts _ (gw kw_13 rfl)) (hts _ (gw kw_851 rfl)) hd_X12_passes ⟨Nat.le_of_ble_eq_true rfl, Nat.le_of_ble_eq_true rfl⟩), (hts _ (gw kw_853 rfl)), (hts _ (gw ks_40 rfl))⟩ ⟨fb_std, va_recv (q := (RX12, TX12, 33)) hK hPc (ci := 12) (q0 := 0) rfl rfl, pre_std hPc hK hDc hN⟩ rfl rfl hl.1 rfl (lv_room (Nat.le_of_ble_eq_true rfl)) dX12_passesAll_18 ⟨Nat.le_of_ble_eq_true rfl, Nat.le_of_ble_eq_true rfl⟩) hS (fun q _ h => hFc q h) hFc (fun u9 t9 H1 locs ht hvm hw_2 hB hz1 hk1 hS => ?_)
  obtain ⟨u_3, rfl⟩ : ∃ z, z = u9 := ⟨_, rfl⟩
  obtain ⟨hP1, hK1, hD1⟩ := hB
  rw [ht] at hP1
  clear hK1
  try dsimp only at hw_2
  have hpd9 : PDx (dC, dI) classes A H1 [cI aC m_figure 9 ff, cI aC m_weight 9 wf, cI aC m_got 8 pf, cI aC m_setting 5 stf, oX12 g0 m_refused m_kind m_figure m_weight m_got m_setting men msy mdn m_tape m_letter m_letterAt m_told tp mat stm m_kept him 1 (nI ((50 * wh) + 9)) m_price m_offer m_gets m_yes m_buys m_ends m_carried m_row rm m_keptRow m_likeGets m_likePrice m_ahead, cI aC m_kept 100 u_3, cI aC m_kind 9 kf] := jn_N (wr := [cI aC m_figure 9 ff, cI aC m_weight 9 wf, cI aC m_got 8 pf, cI aC m_setting 5 stf]) hFc hk1 hP1 hD1 hP hD [0, 1, 2] [3, 4, 5, 6] rfl rfl (by decide) (by decide)
  have hP := hpd9.1
  have hD := hpd9.2
  clear hpd9
  generalize H1 = H at hP hS ⊢
  clear hPc hDc hFc hz1 hk1 hP1 hD1 ht hvm
  have hq_18 := hw_2
  have hP : va_P (dC, dI) classes [cI aC m_figure 9 ff, cI aC m_weight 9 wf, cI aC m_got 8 pf, cI aC m_setting 5 stf, oX12 g0 m_refused m_kind m_figure m_weight m_got m_setting men msy mdn m_tape m_letter m_letterAt m_told tp mat stm m_kept him 1 (nI (50 * wh + 9)) m_price m_offer m_gets m_yes m_buys m_ends m_carried m_row rm m_keptRow m_likeGets m_likePrice m_ahead, cI aC m_kept 100 u_3, cI aC m_kind 9 kf] H := hP
  have hD : va_D A [cI aC m_figure 9 ff, cI aC m_weight 9 wf, cI aC m_got 8 pf, cI aC m_setting 5 stf, oX12 g0 m_refused m_kind m_figure m_weight m_got m_setting men msy mdn m_tape m_letter m_letterAt m_told tp mat stm m_kept him 1 (nI (50 * wh + 9)) m_price m_offer m_gets m_yes m_buys m_ends m_carried m_row rm m_keptRow m_likeGets m_likePrice m_ahead, cI aC m_kept 100 u_3, cI aC m_kind 9 kf] := hD
  refine lv_aload_n hx hb dX12_passesAll_21 rfl (lv_at hl 0 rfl) ?_
  refine lv_aload_n hx hb dX12_passesAll_22 rfl (lv_at hl 0 rfl) ?_
  refine va_get (D := (dC, dI)) (ci := 12) (v := Value.ref m_figure) (C := RX12) (T := TX12) (N := 33) hx hb hts inX12 hown hK hP 4 rfl rfl 2 (by decide) (hts _ (gw kw_719 rfl)) (fun _ h9 => h9) rfl dX12_passesAll_23 ?_
  have hpd9 := pdf_N (cx := [oX12 g0 m_refused m_kind m_figure m_weight m_got m_setting men msy mdn m_tape m_letter m_letterAt m_told tp mat stm m_kept him 1 (nI (50 * wh + 9)) m_price m_offer m_gets m_yes m_buys m_ends m_carried m_row rm m_keptRow m_likeGets m_likePrice m_ahead, cI aC m_kept 100 u_3, cI aC m_figure 9 ff]) hP hD hS hA [4, 5, 0] (by decide) rfl
  have hPc := hpd9.1
  have hDc := hpd9.2.1
  have hFc := hpd9.2.2
  clear hpd9
  refine va_callv (va_runV (As := [Value.ref m_figure]) (rest := []) ⟨hx, hb, hml, hown, hts⟩ (c_X12_passes_k l dC dI aC H.size g0 m_refused m_kind m_figure m_weight m_got m_setting m_tape m_letter m_letterAt m_told m_kept m_price m_offer m_gets m_yes m_buys m_ends m_carried m_row m_keptRow m_likeGets m_likePrice m_ahead men msy mdn tp mat stm him rm m_figure 9 (50 * wh + 9) ff u_3 (by omega)) ⟨(callB_of 1 hts (gG kw_854) rfl rfl rfl (hts _ (gw kw_13 rfl)) (hts _ (gw kw_851 rfl)) hd_X12_passes ⟨Nat.le_of_ble_eq_true rfl, Nat.le_of_ble_eq_true rfl⟩), (hts _ (gw kw_853 rfl)), (hts _ (gw ks_40 rfl))⟩ ⟨fb_std, va_recv (q := (RX12, TX12, 33)) hK hPc (ci := 12) (q0 := 0) rfl rfl, pre_std hPc hK hDc hN⟩ rfl rfl hl.1 rfl (lv_room (Nat.le_of_ble_eq_true rfl)) dX12_passesAll_26 ⟨Nat.le_of_ble_eq_true rfl, Nat.le_of_ble_eq_true rfl⟩) hS (fun q _ h => hFc q h) hFc (fun u9 t9 H1 locs ht hvm hw_4 hB hz1 hk1 hS => ?_)
  obtain ⟨u_5, rfl⟩ : ∃ z, z = u9 := ⟨_, rfl⟩
  obtain ⟨hP1, hK1, hD1⟩ := hB
  rw [ht] at hP1
  clear hK1
  try dsimp only at hw_4
  have hpd9 : PDx (dC, dI) classes A H1 [cI aC m_weight 9 wf, cI aC m_got 8 pf, cI aC m_setting 5 stf, cI aC m_kind 9 kf, oX12 g0 m_refused m_kind m_figure m_weight m_got m_setting men msy mdn m_tape m_letter m_letterAt m_told tp mat stm m_kept him 1 (nI ((50 * wh + 9) + 9)) m_price m_offer m_gets m_yes m_buys m_ends m_carried m_row rm m_keptRow m_likeGets m_likePrice m_ahead, cI aC m_kept 100 u_5, cI aC m_figure 9 ff] := jn_N (wr := [cI aC m_weight 9 wf, cI aC m_got 8 pf, cI aC m_setting 5 stf, cI aC m_kind 9 kf]) hFc hk1 hP1 hD1 hP hD [4, 5, 0] [1, 2, 3, 6] rfl rfl (by decide) (by decide)
  have hP := hpd9.1
  have hD := hpd9.2
  clear hpd9
  generalize H1 = H at hP hS ⊢
  clear hPc hDc hFc hz1 hk1 hP1 hD1 ht hvm
  have hq_26 := hw_4
  have hP : va_P (dC, dI) classes [cI aC m_weight 9 wf, cI aC m_got 8 pf, cI aC m_setting 5 stf, cI aC m_kind 9 kf, oX12 g0 m_refused m_kind m_figure m_weight m_got m_setting men msy mdn m_tape m_letter m_letterAt m_told tp mat stm m_kept him 1 (nI (50 * wh + 18)) m_price m_offer m_gets m_yes m_buys m_ends m_carried m_row rm m_keptRow m_likeGets m_likePrice m_ahead, cI aC m_kept 100 u_5, cI aC m_figure 9 ff] H := hP
  have hD : va_D A [cI aC m_weight 9 wf, cI aC m_got 8 pf, cI aC m_setting 5 stf, cI aC m_kind 9 kf, oX12 g0 m_refused m_kind m_figure m_weight m_got m_setting men msy mdn m_tape m_letter m_letterAt m_told tp mat stm m_kept him 1 (nI (50 * wh + 18)) m_price m_offer m_gets m_yes m_buys m_ends m_carried m_row rm m_keptRow m_likeGets m_likePrice m_ahead, cI aC m_kept 100 u_5, cI aC m_figure 9 ff] := hD
  refine lv_aload_n hx hb dX12_passesAll_29 rfl (lv_at hl 0 rfl) ?_
  refine lv_aload_n hx hb dX12_passesAll_30 rfl (lv_at hl 0 rfl) ?_
  refine va_get (D := (dC, dI)) (ci := 12) (v := Value.ref m_weight) (C := RX12) (T := TX12) (N := 33) hx hb hts inX12 hown hK hP 4 rfl rfl 3 (by decide) (hts _ (gw kw_720 rfl)) (fun _ h9 => h9) rfl dX12_passesAll_31 ?_
  have hpd9 := pdf_N (cx := [oX12 g0 m_refused m_kind m_figure m_weight m_got m_setting men msy mdn m_tape m_letter m_letterAt m_told tp mat stm m_kept him 1 (nI (50 * wh + 18)) m_price m_offer m_gets m_yes m_buys m_ends m_carried m_row rm m_keptRow m_likeGets m_likePrice m_ahead, cI aC m_kept 100 u_5, cI aC m_weight 9 wf]) hP hD hS hA [4, 5, 0] (by decide) rfl
  have hPc := hpd9.1
  have hDc := hpd9.2.1
  have hFc := hpd9.2.2
  clear hpd9
  refine va_callv (va_runV (As := [Value.ref m_weight]) (rest := []) ⟨hx, hb, hml, hown, hts⟩ (c_X12_passes_k l dC dI aC H.size g0 m_refused m_kind m_figure m_weight m_got m_setting m_tape m_letter m_letterAt m_told m_kept m_price m_offer m_gets m_yes m_buys m_ends m_carried m_row m_keptRow m_likeGets m_likePrice m_ahead men msy mdn tp mat stm him rm m_weight 9 (50 * wh + 18) wf u_5 (by omega)) ⟨(callB_of 1 hts (gG kw_854) rfl rfl rfl (hts _ (gw kw_13 rfl)) (hts _ (gw kw_851 rfl)) hd_X12_passes ⟨Nat.le_of_ble_eq_true rfl, Nat.le_of_ble_eq_true rfl⟩), (hts _ (gw kw_853 rfl)), (hts _ (gw ks_40 rfl))⟩ ⟨fb_std, va_recv (q := (RX12, TX12, 33)) hK hPc (ci := 12) (q0 := 0) rfl rfl, pre_std hPc hK hDc hN⟩ rfl rfl hl.1 rfl (lv_room (Nat.le_of_ble_eq_true rfl)) dX12_passesAll_34 ⟨Nat.le_of_ble_eq_true rfl, Nat.le_of_ble_eq_true rfl⟩) hS (fun q _ h => hFc q h) hFc (fun u9 t9 H1 locs ht hvm hw_6 hB hz1 hk1 hS => ?_)
  obtain ⟨u_7, rfl⟩ : ∃ z, z = u9 := ⟨_, rfl⟩
  obtain ⟨hP1, hK1, hD1⟩ := hB
  rw [ht] at hP1
  clear hK1
  try dsimp only at hw_6
  have hpd9 : PDx (dC, dI) classes A H1 [cI aC m_got 8 pf, cI aC m_setting 5 stf, cI aC m_kind 9 kf, cI aC m_figure 9 ff, oX12 g0 m_refused m_kind m_figure m_weight m_got m_setting men msy mdn m_tape m_letter m_letterAt m_told tp mat stm m_kept him 1 (nI ((50 * wh + 18) + 9)) m_price m_offer m_gets m_yes m_buys m_ends m_carried m_row rm m_keptRow m_likeGets m_likePrice m_ahead, cI aC m_kept 100 u_7, cI aC m_weight 9 wf] := jn_N (wr := [cI aC m_got 8 pf, cI aC m_setting 5 stf, cI aC m_kind 9 kf, cI aC m_figure 9 ff]) hFc hk1 hP1 hD1 hP hD [4, 5, 0] [1, 2, 3, 6] rfl rfl (by decide) (by decide)
  have hP := hpd9.1
  have hD := hpd9.2
  clear hpd9
  generalize H1 = H at hP hS ⊢
  clear hPc hDc hFc hz1 hk1 hP1 hD1 ht hvm
  have hq_34 := hw_6
  have hP : va_P (dC, dI) classes [cI aC m_got 8 pf, cI aC m_setting 5 stf, cI aC m_kind 9 kf, cI aC m_figure 9 ff, oX12 g0 m_refused m_kind m_figure m_weight m_got m_setting men msy mdn m_tape m_letter m_letterAt m_told tp mat stm m_kept him 1 (nI (50 * wh + 27)) m_price m_offer m_gets m_yes m_buys m_ends m_carried m_row rm m_keptRow m_likeGets m_likePrice m_ahead, cI aC m_kept 100 u_7, cI aC m_weight 9 wf] H := hP
  have hD : va_D A [cI aC m_got 8 pf, cI aC m_setting 5 stf, cI aC m_kind 9 kf, cI aC m_figure 9 ff, oX12 g0 m_refused m_kind m_figure m_weight m_got m_setting men msy mdn m_tape m_letter m_letterAt m_told tp mat stm m_kept him 1 (nI (50 * wh + 27)) m_price m_offer m_gets m_yes m_buys m_ends m_carried m_row rm m_keptRow m_likeGets m_likePrice m_ahead, cI aC m_kept 100 u_7, cI aC m_weight 9 wf] := hD
  refine lv_aload_n hx hb dX12_passesAll_37 rfl (lv_at hl 0 rfl) ?_
  refine lv_aload_n hx hb dX12_passesAll_38 rfl (lv_at hl 0 rfl) ?_
  refine va_get (D := (dC, dI)) (ci := 12) (v := Value.ref m_got) (C := RX12) (T := TX12) (N := 33) hx hb hts inX12 hown hK hP 4 rfl rfl 4 (by decide) (hts _ (gw kw_721 rfl)) (fun _ h9 => h9) rfl dX12_passesAll_39 ?_
  have hpd9 := pdf_N (cx := [oX12 g0 m_refused m_kind m_figure m_weight m_got m_setting men msy mdn m_tape m_letter m_letterAt m_told tp mat stm m_kept him 1 (nI (50 * wh + 27)) m_price m_offer m_gets m_yes m_buys m_ends m_carried m_row rm m_keptRow m_likeGets m_likePrice m_ahead, cI aC m_kept 100 u_7, cI aC m_got 8 pf]) hP hD hS hA [4, 5, 0] (by decide) rfl
  have hPc := hpd9.1
  have hDc := hpd9.2.1
  have hFc := hpd9.2.2
  clear hpd9
  refine va_callv (va_runV (As := [Value.ref m_got]) (rest := []) ⟨hx, hb, hml, hown, hts⟩ (c_X12_passes_k l dC dI aC H.size g0 m_refused m_kind m_figure m_weight m_got m_setting m_tape m_letter m_letterAt m_told m_kept m_price m_offer m_gets m_yes m_buys m_ends m_carried m_row m_keptRow m_likeGets m_likePrice m_ahead men msy mdn tp mat stm him rm m_got 8 (50 * wh + 27) pf u_7 (by omega)) ⟨(callB_of 1 hts (gG kw_854) rfl rfl rfl (hts _ (gw kw_13 rfl)) (hts _ (gw kw_851 rfl)) hd_X12_passes ⟨Nat.le_of_ble_eq_true rfl, Nat.le_of_ble_eq_true rfl⟩), (hts _ (gw kw_853 rfl)), (hts _ (gw ks_40 rfl))⟩ ⟨fb_std, va_recv (q := (RX12, TX12, 33)) hK hPc (ci := 12) (q0 := 0) rfl rfl, pre_std hPc hK hDc hN⟩ rfl rfl hl.1 rfl (lv_room (Nat.le_of_ble_eq_true rfl)) dX12_passesAll_42 ⟨Nat.le_of_ble_eq_true rfl, Nat.le_of_ble_eq_true rfl⟩) hS (fun q _ h => hFc q h) hFc (fun u9 t9 H1 locs ht hvm hw_8 hB hz1 hk1 hS => ?_)
  obtain ⟨u_9, rfl⟩ : ∃ z, z = u9 := ⟨_, rfl⟩
  obtain ⟨hP1, hK1, hD1⟩ := hB
  rw [ht] at hP1
  clear hK1
  try dsimp only at hw_8
  have hpd9 : PDx (dC, dI) classes A H1 [cI aC m_setting 5 stf, cI aC m_kind 9 kf, cI aC m_figure 9 ff, cI aC m_weight 9 wf, oX12 g0 m_refused m_kind m_figure m_weight m_got m_setting men msy mdn m_tape m_letter m_letterAt m_told tp mat stm m_kept him 1 (nI ((50 * wh + 27) + 8)) m_price m_offer m_gets m_yes m_buys m_ends m_carried m_row rm m_keptRow m_likeGets m_likePrice m_ahead, cI aC m_kept 100 u_9, cI aC m_got 8 pf] := jn_N (wr := [cI aC m_setting 5 stf, cI aC m_kind 9 kf, cI aC m_figure 9 ff, cI aC m_weight 9 wf]) hFc hk1 hP1 hD1 hP hD [4, 5, 0] [1, 2, 3, 6] rfl rfl (by decide) (by decide)
  have hP := hpd9.1
  have hD := hpd9.2
  clear hpd9
  generalize H1 = H at hP hS ⊢
  clear hPc hDc hFc hz1 hk1 hP1 hD1 ht hvm
  have hq_42 := hw_8
  have hP : va_P (dC, dI) classes [cI aC m_setting 5 stf, cI aC m_kind 9 kf, cI aC m_figure 9 ff, cI aC m_weight 9 wf, oX12 g0 m_refused m_kind m_figure m_weight m_got m_setting men msy mdn m_tape m_letter m_letterAt m_told tp mat stm m_kept him 1 (nI (50 * wh + 35)) m_price m_offer m_gets m_yes m_buys m_ends m_carried m_row rm m_keptRow m_likeGets m_likePrice m_ahead, cI aC m_kept 100 u_9, cI aC m_got 8 pf] H := hP
  have hD : va_D A [cI aC m_setting 5 stf, cI aC m_kind 9 kf, cI aC m_figure 9 ff, cI aC m_weight 9 wf, oX12 g0 m_refused m_kind m_figure m_weight m_got m_setting men msy mdn m_tape m_letter m_letterAt m_told tp mat stm m_kept him 1 (nI (50 * wh + 35)) m_price m_offer m_gets m_yes m_buys m_ends m_carried m_row rm m_keptRow m_likeGets m_likePrice m_ahead, cI aC m_kept 100 u_9, cI aC m_got 8 pf] := hD
  refine lv_aload_n hx hb dX12_passesAll_45 rfl (lv_at hl 0 rfl) ?_
  refine lv_aload_n hx hb dX12_passesAll_46 rfl (lv_at hl 0 rfl) ?_
  refine va_get (D := (dC, dI)) (ci := 12) (v := Value.ref m_setting) (C := RX12) (T := TX12) (N := 33) hx hb hts inX12 hown hK hP 4 rfl rfl 5 (by decide) (hts _ (gw kw_722 rfl)) (fun _ h9 => h9) rfl dX12_passesAll_47 ?_
  have hpd9 := pdf_N (cx := [oX12 g0 m_refused m_kind m_figure m_weight m_got m_setting men msy mdn m_tape m_letter m_letterAt m_told tp mat stm m_kept him 1 (nI (50 * wh + 35)) m_price m_offer m_gets m_yes m_buys m_ends m_carried m_row rm m_keptRow m_likeGets m_likePrice m_ahead, cI aC m_kept 100 u_9, cI aC m_setting 5 stf]) hP hD hS hA [4, 5, 0] (by decide) rfl
  have hPc := hpd9.1
  have hDc := hpd9.2.1
  have hFc := hpd9.2.2
  clear hpd9
  refine va_callv (va_runV (As := [Value.ref m_setting]) (rest := []) ⟨hx, hb, hml, hown, hts⟩ (c_X12_passes_k l dC dI aC H.size g0 m_refused m_kind m_figure m_weight m_got m_setting m_tape m_letter m_letterAt m_told m_kept m_price m_offer m_gets m_yes m_buys m_ends m_carried m_row m_keptRow m_likeGets m_likePrice m_ahead men msy mdn tp mat stm him rm m_setting 5 (50 * wh + 35) stf u_9 (by omega)) ⟨(callB_of 1 hts (gG kw_854) rfl rfl rfl (hts _ (gw kw_13 rfl)) (hts _ (gw kw_851 rfl)) hd_X12_passes ⟨Nat.le_of_ble_eq_true rfl, Nat.le_of_ble_eq_true rfl⟩), (hts _ (gw kw_853 rfl)), (hts _ (gw ks_40 rfl))⟩ ⟨fb_std, va_recv (q := (RX12, TX12, 33)) hK hPc (ci := 12) (q0 := 0) rfl rfl, pre_std hPc hK hDc hN⟩ rfl rfl hl.1 rfl (lv_room (Nat.le_of_ble_eq_true rfl)) dX12_passesAll_50 ⟨Nat.le_of_ble_eq_true rfl, Nat.le_of_ble_eq_true rfl⟩) hS (fun q _ h => hFc q h) hFc (fun u9 t9 H1 locs ht hvm hw_10 hB hz1 hk1 hS => ?_)
  obtain ⟨u_11, rfl⟩ : ∃ z, z = u9 := ⟨_, rfl⟩
  obtain ⟨hP1, hK1, hD1⟩ := hB
  rw [ht] at hP1
  clear hK1
  try dsimp only at hw_10
  have hpd9 : PDx (dC, dI) classes A H1 [cI aC m_kind 9 kf, cI aC m_figure 9 ff, cI aC m_weight 9 wf, cI aC m_got 8 pf, oX12 g0 m_refused m_kind m_figure m_weight m_got m_setting men msy mdn m_tape m_letter m_letterAt m_told tp mat stm m_kept him 1 (nI ((50 * wh + 35) + 5)) m_price m_offer m_gets m_yes m_buys m_ends m_carried m_row rm m_keptRow m_likeGets m_likePrice m_ahead, cI aC m_kept 100 u_11, cI aC m_setting 5 stf] := jn_N (wr := [cI aC m_kind 9 kf, cI aC m_figure 9 ff, cI aC m_weight 9 wf, cI aC m_got 8 pf]) hFc hk1 hP1 hD1 hP hD [4, 5, 0] [1, 2, 3, 6] rfl rfl (by decide) (by decide)
  have hP := hpd9.1
  have hD := hpd9.2
  clear hpd9
  generalize H1 = H at hP hS ⊢
  clear hPc hDc hFc hz1 hk1 hP1 hD1 ht hvm
  have hq_50 := hw_10
  have hP : va_P (dC, dI) classes [cI aC m_kind 9 kf, cI aC m_figure 9 ff, cI aC m_weight 9 wf, cI aC m_got 8 pf, oX12 g0 m_refused m_kind m_figure m_weight m_got m_setting men msy mdn m_tape m_letter m_letterAt m_told tp mat stm m_kept him 1 (nI (50 * wh + 40)) m_price m_offer m_gets m_yes m_buys m_ends m_carried m_row rm m_keptRow m_likeGets m_likePrice m_ahead, cI aC m_kept 100 u_11, cI aC m_setting 5 stf] H := hP
  have hD : va_D A [cI aC m_kind 9 kf, cI aC m_figure 9 ff, cI aC m_weight 9 wf, cI aC m_got 8 pf, oX12 g0 m_refused m_kind m_figure m_weight m_got m_setting men msy mdn m_tape m_letter m_letterAt m_told tp mat stm m_kept him 1 (nI (50 * wh + 40)) m_price m_offer m_gets m_yes m_buys m_ends m_carried m_row rm m_keptRow m_likeGets m_likePrice m_ahead, cI aC m_kept 100 u_11, cI aC m_setting 5 stf] := hD
  refine lv_aload_n hx hb dX12_passesAll_53 rfl (lv_at hl 0 rfl) ?_
  refine lv_aload_n hx hb dX12_passesAll_54 rfl (lv_at hl 0 rfl) ?_
  refine lv_aload_n hx hb dX12_passesAll_55 rfl (lv_at hl 0 rfl) ?_
  refine va_get (D := (dC, dI)) (ci := 12) (v := Value.int men) (C := RX12) (T := TX12) (N := 33) hx hb hts inX12 hown hK hP 4 rfl rfl 6 (by decide) (hts _ (gw kw_723 rfl)) (fun _ h9 => h9) rfl dX12_passesAll_56 ?_
  have hpd9 := pdf_N (cx := [oX12 g0 m_refused m_kind m_figure m_weight m_got m_setting men msy mdn m_tape m_letter m_letterAt m_told tp mat stm m_kept him 1 (nI (50 * wh + 40)) m_price m_offer m_gets m_yes m_buys m_ends m_carried m_row rm m_keptRow m_likeGets m_likePrice m_ahead, cI aC m_kept 100 u_11]) hP hD hS hA [4, 5] (by decide) rfl
  have hPc := hpd9.1
  have hDc := hpd9.2.1
  have hFc := hpd9.2.2
  clear hpd9
  refine va_calli (va_runV (As := [Value.int men]) (rest := [Value.ref g0]) ⟨hx, hb, hml, hown, hts⟩ (c_X12_passOne_k l dC dI aC H.size g0 m_refused m_kind m_figure m_weight m_got m_setting m_tape m_letter m_letterAt m_told m_kept m_price m_offer m_gets m_yes m_buys m_ends m_carried m_row m_keptRow m_likeGets m_likePrice m_ahead men msy mdn tp mat stm him rm men (50 * wh + 40) u_11 (by omega)) ⟨(callB_of 1 hts (gG kw_858) rfl rfl rfl (hts _ (gw kw_13 rfl)) (hts _ (gw kw_855 rfl)) hd_X12_passOne ⟨Nat.le_of_ble_eq_true rfl, Nat.le_of_ble_eq_true rfl⟩), (hts _ (gw kw_857 rfl)), (hts _ (gw ks_41 rfl))⟩ ⟨fb_std, va_recv (q := (RX12, TX12, 33)) hK hPc (ci := 12) (q0 := 0) rfl rfl, pre_std hPc hK hDc hN⟩ rfl rfl hl.1 rfl (lv_room (Nat.le_of_ble_eq_true rfl)) dX12_passesAll_59 ⟨Nat.le_of_ble_eq_true rfl, Nat.le_of_ble_eq_true rfl⟩) hS (fun q _ h => hFc q h) hFc (fun x_12 u9 t9 H1 locs ht hvm hw_12 hB hz1 hk1 hS => ?_)
  obtain ⟨u_13, rfl⟩ : ∃ z, z = u9 := ⟨_, rfl⟩
  obtain ⟨hP1, hK1, hD1⟩ := hB
  rw [ht] at hP1
  clear hK1
  try dsimp only at hw_12
  have hpd9 : PDx (dC, dI) classes A H1 [cI aC m_kind 9 kf, cI aC m_figure 9 ff, cI aC m_weight 9 wf, cI aC m_got 8 pf, cI aC m_setting 5 stf, oX12 g0 m_refused m_kind m_figure m_weight m_got m_setting men msy mdn m_tape m_letter m_letterAt m_told tp mat stm m_kept him 1 (nI ((50 * wh + 40) + 1)) m_price m_offer m_gets m_yes m_buys m_ends m_carried m_row rm m_keptRow m_likeGets m_likePrice m_ahead, cI aC m_kept 100 u_13] := jn_N (wr := [cI aC m_kind 9 kf, cI aC m_figure 9 ff, cI aC m_weight 9 wf, cI aC m_got 8 pf, cI aC m_setting 5 stf]) hFc hk1 hP1 hD1 hP hD [4, 5] [0, 1, 2, 3, 6] rfl rfl (by decide) (by decide)
  have hP := hpd9.1
  have hD := hpd9.2
  clear hpd9
  generalize H1 = H at hP hS ⊢
  clear hPc hDc hFc hz1 hk1 hP1 hD1 ht hvm
  obtain ⟨hr_59, hq_59⟩ := hw_12
  have h9 : men = x_12 := Eq.symm (show x_12 = men from hr_59)
  subst h9
  refine va_put (D := (dC, dI)) (ci := 12) (v := Value.int men) (ty := .int) (C := RX12) (T := TX12) (N := 33) hx hb hts inX12 tyX12 tyX12_ok nmX12 hown hK hP hD hS 5 rfl rfl 6 (by decide) (hts _ (gw kw_723 rfl)) (fun _ h9 => h9) rfl (by decide +kernel) rfl rfl (Nat.le_of_ble_eq_true rfl) dX12_passesAll_62 (fun H locs hP hD hS => ?_)
  have hpd9 : PDx (dC, dI) classes A H [cI aC m_kind 9 kf, cI aC m_figure 9 ff, cI aC m_weight 9 wf, cI aC m_got 8 pf, cI aC m_setting 5 stf, oX12 g0 m_refused m_kind m_figure m_weight m_got m_setting men msy mdn m_tape m_letter m_letterAt m_told tp mat stm m_kept him 1 (nI ((50 * wh + 40) + 1)) m_price m_offer m_gets m_yes m_buys m_ends m_carried m_row rm m_keptRow m_likeGets m_likePrice m_ahead, cI aC m_kept 100 u_13] := ⟨hP, hD⟩
  have hP := hpd9.1
  have hD := hpd9.2
  clear hpd9
  have hP : va_P (dC, dI) classes [cI aC m_kind 9 kf, cI aC m_figure 9 ff, cI aC m_weight 9 wf, cI aC m_got 8 pf, cI aC m_setting 5 stf, oX12 g0 m_refused m_kind m_figure m_weight m_got m_setting men msy mdn m_tape m_letter m_letterAt m_told tp mat stm m_kept him 1 (nI (50 * wh + 41)) m_price m_offer m_gets m_yes m_buys m_ends m_carried m_row rm m_keptRow m_likeGets m_likePrice m_ahead, cI aC m_kept 100 u_13] H := hP
  have hD : va_D A [cI aC m_kind 9 kf, cI aC m_figure 9 ff, cI aC m_weight 9 wf, cI aC m_got 8 pf, cI aC m_setting 5 stf, oX12 g0 m_refused m_kind m_figure m_weight m_got m_setting men msy mdn m_tape m_letter m_letterAt m_told tp mat stm m_kept him 1 (nI (50 * wh + 41)) m_price m_offer m_gets m_yes m_buys m_ends m_carried m_row rm m_keptRow m_likeGets m_likePrice m_ahead, cI aC m_kept 100 u_13] := hD
  refine lv_aload_n hx hb dX12_passesAll_65 rfl (lv_at hl 0 rfl) ?_
  refine lv_aload_n hx hb dX12_passesAll_66 rfl (lv_at hl 0 rfl) ?_
  refine lv_aload_n hx hb dX12_passesAll_67 rfl (lv_at hl 0 rfl) ?_
  refine va_get (D := (dC, dI)) (ci := 12) (v := Value.int msy) (C := RX12) (T := TX12) (N := 33) hx hb hts inX12 hown hK hP 5 rfl rfl 7 (by decide) (hts _ (gw kw_724 rfl)) (fun _ h9 => h9) rfl dX12_passesAll_68 ?_
  have hpd9 := pdf_N (cx := [oX12 g0 m_refused m_kind m_figure m_weight m_got m_setting men msy mdn m_tape m_letter m_letterAt m_told tp mat stm m_kept him 1 (nI (50 * wh + 41)) m_price m_offer m_gets m_yes m_buys m_ends m_carried m_row rm m_keptRow m_likeGets m_likePrice m_ahead, cI aC m_kept 100 u_13]) hP hD hS hA [5, 6] (by decide) rfl
  have hPc := hpd9.1
  have hDc := hpd9.2.1
  have hFc := hpd9.2.2
  clear hpd9
  refine va_calli (va_runV (As := [Value.int msy]) (rest := [Value.ref g0]) ⟨hx, hb, hml, hown, hts⟩ (c_X12_passOne_k l dC dI aC H.size g0 m_refused m_kind m_figure m_weight m_got m_setting m_tape m_letter m_letterAt m_told m_kept m_price m_offer m_gets m_yes m_buys m_ends m_carried m_row m_keptRow m_likeGets m_likePrice m_ahead men msy mdn tp mat stm him rm msy (50 * wh + 41) u_13 (by omega)) ⟨(callB_of 1 hts (gG kw_858) rfl rfl rfl (hts _ (gw kw_13 rfl)) (hts _ (gw kw_855 rfl)) hd_X12_passOne ⟨Nat.le_of_ble_eq_true rfl, Nat.le_of_ble_eq_true rfl⟩), (hts _ (gw kw_857 rfl)), (hts _ (gw ks_41 rfl))⟩ ⟨fb_std, va_recv (q := (RX12, TX12, 33)) hK hPc (ci := 12) (q0 := 0) rfl rfl, pre_std hPc hK hDc hN⟩ rfl rfl hl.1 rfl (lv_room (Nat.le_of_ble_eq_true rfl)) dX12_passesAll_71 ⟨Nat.le_of_ble_eq_true rfl, Nat.le_of_ble_eq_true rfl⟩) hS (fun q _ h => hFc q h) hFc (fun x_14 u9 t9 H1 locs ht hvm hw_14 hB hz1 hk1 hS => ?_)
  obtain ⟨u_15, rfl⟩ : ∃ z, z = u9 := ⟨_, rfl⟩
  obtain ⟨hP1, hK1, hD1⟩ := hB
  rw [ht] at hP1
  clear hK1
  try dsimp only at hw_14
  have hpd9 : PDx (dC, dI) classes A H1 [cI aC m_kind 9 kf, cI aC m_figure 9 ff, cI aC m_weight 9 wf, cI aC m_got 8 pf, cI aC m_setting 5 stf, oX12 g0 m_refused m_kind m_figure m_weight m_got m_setting men msy mdn m_tape m_letter m_letterAt m_told tp mat stm m_kept him 1 (nI ((50 * wh + 41) + 1)) m_price m_offer m_gets m_yes m_buys m_ends m_carried m_row rm m_keptRow m_likeGets m_likePrice m_ahead, cI aC m_kept 100 u_15] := jn_N (wr := [cI aC m_kind 9 kf, cI aC m_figure 9 ff, cI aC m_weight 9 wf, cI aC m_got 8 pf, cI aC m_setting 5 stf]) hFc hk1 hP1 hD1 hP hD [5, 6] [0, 1, 2, 3, 4] rfl rfl (by decide) (by decide)
  have hP := hpd9.1
  have hD := hpd9.2
  clear hpd9
  generalize H1 = H at hP hS ⊢
  clear hPc hDc hFc hz1 hk1 hP1 hD1 ht hvm
  obtain ⟨hr_71, hq_71⟩ := hw_14
  have h9 : msy = x_14 := Eq.symm (show x_14 = msy from hr_71)
  subst h9
  refine va_put (D := (dC, dI)) (ci := 12) (v := Value.int msy) (ty := .int) (C := RX12) (T := TX12) (N := 33) hx hb hts inX12 tyX12 tyX12_ok nmX12 hown hK hP hD hS 5 rfl rfl 7 (by decide) (hts _ (gw kw_724 rfl)) (fun _ h9 => h9) rfl (by decide +kernel) rfl rfl (Nat.le_of_ble_eq_true rfl) dX12_passesAll_74 (fun H locs hP hD hS => ?_)
  have hpd9 : PDx (dC, dI) classes A H [cI aC m_kind 9 kf, cI aC m_figure 9 ff, cI aC m_weight 9 wf, cI aC m_got 8 pf, cI aC m_setting 5 stf, oX12 g0 m_refused m_kind m_figure m_weight m_got m_setting men msy mdn m_tape m_letter m_letterAt m_told tp mat stm m_kept him 1 (nI ((50 * wh + 41) + 1)) m_price m_offer m_gets m_yes m_buys m_ends m_carried m_row rm m_keptRow m_likeGets m_likePrice m_ahead, cI aC m_kept 100 u_15] := ⟨hP, hD⟩
  have hP := hpd9.1
  have hD := hpd9.2
  clear hpd9
  have hP : va_P (dC, dI) classes [cI aC m_kind 9 kf, cI aC m_figure 9 ff, cI aC m_weight 9 wf, cI aC m_got 8 pf, cI aC m_setting 5 stf, oX12 g0 m_refused m_kind m_figure m_weight m_got m_setting men msy mdn m_tape m_letter m_letterAt m_told tp mat stm m_kept him 1 (nI (50 * wh + 42)) m_price m_offer m_gets m_yes m_buys m_ends m_carried m_row rm m_keptRow m_likeGets m_likePrice m_ahead, cI aC m_kept 100 u_15] H := hP
  have hD : va_D A [cI aC m_kind 9 kf, cI aC m_figure 9 ff, cI aC m_weight 9 wf, cI aC m_got 8 pf, cI aC m_setting 5 stf, oX12 g0 m_refused m_kind m_figure m_weight m_got m_setting men msy mdn m_tape m_letter m_letterAt m_told tp mat stm m_kept him 1 (nI (50 * wh + 42)) m_price m_offer m_gets m_yes m_buys m_ends m_carried m_row rm m_keptRow m_likeGets m_likePrice m_ahead, cI aC m_kept 100 u_15] := hD
  refine lv_aload_n hx hb dX12_passesAll_77 rfl (lv_at hl 0 rfl) ?_
  refine lv_aload_n hx hb dX12_passesAll_78 rfl (lv_at hl 0 rfl) ?_
  refine lv_aload_n hx hb dX12_passesAll_79 rfl (lv_at hl 0 rfl) ?_
  refine va_get (D := (dC, dI)) (ci := 12) (v := Value.int mdn) (C := RX12) (T := TX12) (N := 33) hx hb hts inX12 hown hK hP 5 rfl rfl 8 (by decide) (hts _ (gw kw_725 rfl)) (fun _ h9 => h9) rfl dX12_passesAll_80 ?_
  have hpd9 := pdf_N (cx := [oX12 g0 m_refused m_kind m_figure m_weight m_got m_setting men msy mdn m_tape m_letter m_letterAt m_told tp mat stm m_kept him 1 (nI (50 * wh + 42)) m_price m_offer m_gets m_yes m_buys m_ends m_carried m_row rm m_keptRow m_likeGets m_likePrice m_ahead, cI aC m_kept 100 u_15]) hP hD hS hA [5, 6] (by decide) rfl
  have hPc := hpd9.1
  have hDc := hpd9.2.1
  have hFc := hpd9.2.2
  clear hpd9
  refine va_calli (va_runV (As := [Value.int mdn]) (rest := [Value.ref g0]) ⟨hx, hb, hml, hown, hts⟩ (c_X12_passOne_k l dC dI aC H.size g0 m_refused m_kind m_figure m_weight m_got m_setting m_tape m_letter m_letterAt m_told m_kept m_price m_offer m_gets m_yes m_buys m_ends m_carried m_row m_keptRow m_likeGets m_likePrice m_ahead men msy mdn tp mat stm him rm mdn (50 * wh + 42) u_15 (by omega)) ⟨(callB_of 1 hts (gG kw_858) rfl rfl rfl (hts _ (gw kw_13 rfl)) (hts _ (gw kw_855 rfl)) hd_X12_passOne ⟨Nat.le_of_ble_eq_true rfl, Nat.le_of_ble_eq_true rfl⟩), (hts _ (gw kw_857 rfl)), (hts _ (gw ks_41 rfl))⟩ ⟨fb_std, va_recv (q := (RX12, TX12, 33)) hK hPc (ci := 12) (q0 := 0) rfl rfl, pre_std hPc hK hDc hN⟩ rfl rfl hl.1 rfl (lv_room (Nat.le_of_ble_eq_true rfl)) dX12_passesAll_83 ⟨Nat.le_of_ble_eq_true rfl, Nat.le_of_ble_eq_true rfl⟩) hS (fun q _ h => hFc q h) hFc (fun x_16 u9 t9 H1 locs ht hvm hw_16 hB hz1 hk1 hS => ?_)
  obtain ⟨u_17, rfl⟩ : ∃ z, z = u9 := ⟨_, rfl⟩
  obtain ⟨hP1, hK1, hD1⟩ := hB
  rw [ht] at hP1
  clear hK1
  try dsimp only at hw_16
  have hpd9 : PDx (dC, dI) classes A H1 [cI aC m_kind 9 kf, cI aC m_figure 9 ff, cI aC m_weight 9 wf, cI aC m_got 8 pf, cI aC m_setting 5 stf, oX12 g0 m_refused m_kind m_figure m_weight m_got m_setting men msy mdn m_tape m_letter m_letterAt m_told tp mat stm m_kept him 1 (nI ((50 * wh + 42) + 1)) m_price m_offer m_gets m_yes m_buys m_ends m_carried m_row rm m_keptRow m_likeGets m_likePrice m_ahead, cI aC m_kept 100 u_17] := jn_N (wr := [cI aC m_kind 9 kf, cI aC m_figure 9 ff, cI aC m_weight 9 wf, cI aC m_got 8 pf, cI aC m_setting 5 stf]) hFc hk1 hP1 hD1 hP hD [5, 6] [0, 1, 2, 3, 4] rfl rfl (by decide) (by decide)
  have hP := hpd9.1
  have hD := hpd9.2
  clear hpd9
  generalize H1 = H at hP hS ⊢
  clear hPc hDc hFc hz1 hk1 hP1 hD1 ht hvm
  obtain ⟨hr_83, hq_83⟩ := hw_16
  have h9 : mdn = x_16 := Eq.symm (show x_16 = mdn from hr_83)
  subst h9
  refine va_put (D := (dC, dI)) (ci := 12) (v := Value.int mdn) (ty := .int) (C := RX12) (T := TX12) (N := 33) hx hb hts inX12 tyX12 tyX12_ok nmX12 hown hK hP hD hS 5 rfl rfl 8 (by decide) (hts _ (gw kw_725 rfl)) (fun _ h9 => h9) rfl (by decide +kernel) rfl rfl (Nat.le_of_ble_eq_true rfl) dX12_passesAll_86 (fun H locs hP hD hS => ?_)
  have hpd9 : PDx (dC, dI) classes A H [cI aC m_kind 9 kf, cI aC m_figure 9 ff, cI aC m_weight 9 wf, cI aC m_got 8 pf, cI aC m_setting 5 stf, oX12 g0 m_refused m_kind m_figure m_weight m_got m_setting men msy mdn m_tape m_letter m_letterAt m_told tp mat stm m_kept him 1 (nI ((50 * wh + 42) + 1)) m_price m_offer m_gets m_yes m_buys m_ends m_carried m_row rm m_keptRow m_likeGets m_likePrice m_ahead, cI aC m_kept 100 u_17] := ⟨hP, hD⟩
  have hP := hpd9.1
  have hD := hpd9.2
  clear hpd9
  have hpd9 := pd_N (cx := [oX12 g0 m_refused m_kind m_figure m_weight m_got m_setting men msy mdn m_tape m_letter m_letterAt m_told tp mat stm m_kept him 1 (nI ((50 * wh + 42) + 1)) m_price m_offer m_gets m_yes m_buys m_ends m_carried m_row rm m_keptRow m_likeGets m_likePrice m_ahead, cI aC m_kept 100 u_17, cI aC m_kind 9 kf, cI aC m_figure 9 ff, cI aC m_weight 9 wf, cI aC m_got 8 pf, cI aC m_setting 5 stf]) hP hD [5, 6, 0, 1, 2, 3, 4] (by decide) rfl
  have hP9 := hpd9.1
  have hD9 := hpd9.2
  refine W.widen (k := 0) (n := 0) (by omega) (by omega) ?_
  exact W.vret hx hb hr (fun t ht hW => ⟨⟨((nI ((50 * wh + 42) + 1)), u_17), rfl, PK_of hq_18 hq_26 hq_34 hq_42 hq_50 hq_59 hq_71 hq_83, by rw [ht]; exact hP9, va_K.moved hW.alike hK, hD9⟩, hS.F ht⟩) hS.2.2 dX12_passesAll_89

set_option maxHeartbeats 1000000 in
set_option maxRecDepth 100000 in
/-- X12_passesAll_l -/
theorem c_X12_passesAll_l (l : Launch) (dC : Nat → ClassId) (dI : Nat → Nat → Nat) (aC : Nat → ClassId) (sz : Nat) (g0 : Nat) (m_refused : Nat) (m_kind : Nat) (m_figure : Nat) (m_weight : Nat) (m_got : Nat) (m_setting : Nat) (m_tape : Nat) (m_letter : Nat) (m_letterAt : Nat) (m_told : Nat) (m_kept : Nat) (m_price : Nat) (m_offer : Nat) (m_gets : Nat) (m_yes : Nat) (m_buys : Nat) (m_ends : Nat) (m_carried : Nat) (m_row : Nat) (m_keptRow : Nat) (m_likeGets : Nat) (m_likePrice : Nat) (m_ahead : Nat) (men : Int32) (msy : Int32) (mdn : Int32) (tp : Int32) (mat : Int32) (stm : Int32) (him : Int32) (ki : Int32) (crs : Int32) (rm : Int32) (kp : Nat → Int32) (wh : Nat) (kf : Nat → Int32) (ff : Nat → Int32) (wf : Nat → Int32) (pf : Nat → Int32) (stf : Nat → Int32) (hwh : wh ≤ 1) : Met l yX12_passesAll (wW yX12_passesAll cX12_passesAll 3 (none : Option FieldType)) ({ frames := 1, cells := 0, slots := 0, locals := 22 } : Room) (va_Pc [Value.ref g0, Value.int (nI wh), Value.int 0] (fun U => U.heap.size = sz ∧ va_P (dC, dI) classes [oX12 g0 m_refused m_kind m_figure m_weight m_got m_setting men msy mdn m_tape m_letter m_letterAt m_told tp mat stm m_kept him ki crs m_price m_offer m_gets m_yes m_buys m_ends m_carried m_row rm m_keptRow m_likeGets m_likePrice m_ahead, cI aC m_kept 100 kp, cI aC m_kind 9 kf, cI aC m_figure 9 ff, cI aC m_weight 9 wf, cI aC m_got 8 pf, cI aC m_setting 5 stf] U.heap ∧ va_K (dC, dI) classes (TY aC) U ∧ va_D (fun _ => True) [oX12 g0 m_refused m_kind m_figure m_weight m_got m_setting men msy mdn m_tape m_letter m_letterAt m_told tp mat stm m_kept him ki crs m_price m_offer m_gets m_yes m_buys m_ends m_carried m_row rm m_keptRow m_likeGets m_likePrice m_ahead, cI aC m_kept 100 kp, cI aC m_kind 9 kf, cI aC m_figure 9 ff, cI aC m_weight 9 wf, cI aC m_got 8 pf, cI aC m_setting 5 stf] ∧ NX U)) (va_Qv (fun (u : Int32 × Int32 × Int32 × Int32 × (Nat → Int32) × (Nat → Int32) × (Nat → Int32) × (Nat → Int32) × (Nat → Int32)) => match u with | (cu2, men2, msy2, mdn2, kf2, ff2, wf2, pf2, stf2) => PK (50 * wh) kp kf2 ff2 wf2 pf2 stf2 men2 msy2 mdn2) (fun (u : Int32 × Int32 × Int32 × Int32 × (Nat → Int32) × (Nat → Int32) × (Nat → Int32) × (Nat → Int32) × (Nat → Int32)) (t : State) => match u with | (cu2, men2, msy2, mdn2, kf2, ff2, wf2, pf2, stf2) => va_P (dC, dI) classes [oX12 g0 m_refused m_kind m_figure m_weight m_got m_setting men2 msy2 mdn2 m_tape m_letter m_letterAt m_told tp mat stm m_kept him 0 cu2 m_price m_offer m_gets m_yes m_buys m_ends m_carried m_row rm m_keptRow m_likeGets m_likePrice m_ahead, cI aC m_kept 100 kp, cI aC m_kind 9 kf2, cI aC m_figure 9 ff2, cI aC m_weight 9 wf2, cI aC m_got 8 pf2, cI aC m_setting 5 stf2] t.heap ∧ va_K (dC, dI) classes (TY aC) t ∧ va_D (va_A [oX12 g0 m_refused m_kind m_figure m_weight m_got m_setting men msy mdn m_tape m_letter m_letterAt m_told tp mat stm m_kept him ki crs m_price m_offer m_gets m_yes m_buys m_ends m_carried m_row rm m_keptRow m_likeGets m_likePrice m_ahead, cI aC m_kept 100 kp, cI aC m_kind 9 kf, cI aC m_figure 9 ff, cI aC m_weight 9 wf, cI aC m_got 8 pf, cI aC m_setting 5 stf] sz) [oX12 g0 m_refused m_kind m_figure m_weight m_got m_setting men2 msy2 mdn2 m_tape m_letter m_letterAt m_told tp mat stm m_kept him 0 cu2 m_price m_offer m_gets m_yes m_buys m_ends m_carried m_row rm m_keptRow m_likeGets m_likePrice m_ahead, cI aC m_kept 100 kp, cI aC m_kind 9 kf2, cI aC m_figure 9 ff2, cI aC m_weight 9 wf2, cI aC m_got 8 pf2, cI aC m_setting 5 stf2]) (va_A [oX12 g0 m_refused m_kind m_figure m_weight m_got m_setting men msy mdn m_tape m_letter m_letterAt m_told tp mat stm m_kept him ki crs m_price m_offer m_gets m_yes m_buys m_ends m_carried m_row rm m_keptRow m_likeGets m_likePrice m_ahead, cI aC m_kept 100 kp, cI aC m_kind 9 kf, cI aC m_figure 9 ff, cI aC m_weight 9 wf, cI aC m_got 8 pf, cI aC m_setting 5 stf] sz)) 0 0 (va_A [oX12 g0 m_refused m_kind m_figure m_weight m_got m_setting men msy mdn m_tape m_letter m_letterAt m_told tp mat stm m_kept him ki crs m_price m_offer m_gets m_yes m_buys m_ends m_carried m_row rm m_keptRow m_likeGets m_likePrice m_ahead, cI aC m_kept 100 kp, cI aC m_kind 9 kf, cI aC m_figure 9 ff, cI aC m_weight 9 wf, cI aC m_got 8 pf, cI aC m_setting 5 stf] sz) := by
  refine Met.ofW (cc := cX12_passesAll) (maxL := 3) (ret := (none : Option FieldType)) (by decide) rfl ?_
  intro p e s m args below meth c s₁ B hml hv
  obtain ⟨rfl, hsz, hP, hK, hD0, hN⟩ := hv
  have hx := B.exec
  have hb := B.bytes
  have hr := B.returns
  have hts0 := atoms_spec (ws := (wW yX12_passesAll cX12_passesAll 3 (none : Option FieldType))) B.pre
  have hts : ∀ w9 ∈ lw_G, w9.before ([Value.ref g0, Value.int (nI wh), Value.int 0] : List Value).toArray s = true := fun w9 h9 => hts0 w9 (List.mem_cons_of_mem _ h9)
  have hown : s.vm.findClass RX12 = some m.cls := findClass_of_methodNamed (x := yX12_passesAll) B.named
  have hlocks := B.notSynchronized
  subst hsz
  have hD := hD0.self (sz := s.heap.size)
  generalize hAe : va_A [oX12 g0 m_refused m_kind m_figure m_weight m_got m_setting men msy mdn m_tape m_letter m_letterAt m_told tp mat stm m_kept him ki crs m_price m_offer m_gets m_yes m_buys m_ends m_carried m_row rm m_keptRow m_likeGets m_likePrice m_ahead, cI aC m_kept 100 kp, cI aC m_kind 9 kf, cI aC m_figure 9 ff, cI aC m_weight 9 wf, cI aC m_got 8 pf, cI aC m_setting 5 stf] s.heap.size = A at hD ⊢
  have hA : ∀ q : Nat, s.heap.size ≤ q → A q := fun q h => by rw [← hAe]; exact Or.inr h
  obtain ⟨H, hHe⟩ : ∃ H : Heap, H = s.heap := ⟨_, rfl⟩
  have hS : va_S A s.heap H [] := by rw [hHe]; exact va_S.rf
  have hP : va_P (dC, dI) classes [oX12 g0 m_refused m_kind m_figure m_weight m_got m_setting men msy mdn m_tape m_letter m_letterAt m_told tp mat stm m_kept him ki crs m_price m_offer m_gets m_yes m_buys m_ends m_carried m_row rm m_keptRow m_likeGets m_likePrice m_ahead, cI aC m_kept 100 kp, cI aC m_kind 9 kf, cI aC m_figure 9 ff, cI aC m_weight 9 wf, cI aC m_got 8 pf, cI aC m_setting 5 stf] H := by rw [hHe]; exact hP
  have hl := lv_entry ([Value.ref g0, Value.int (nI wh), Value.int 0]) (n := 3) (Nat.le_of_ble_eq_true rfl)
  rw [lg_entry_eq]
  generalize (lg_sl ([Value.ref g0, Value.int (nI wh), Value.int 0]) ++ List.replicate (3 - (lg_sl ([Value.ref g0, Value.int (nI wh), Value.int 0])).length) Slot.unset).toArray = ls at hl ⊢
  have hl : lv_has ls 3 [(0, Value.ref g0), (1, Value.int (nI wh)), (2, Value.int 0)] := hl
  rw [← hHe]
  refine lv_aload_n hx hb dX12_passesAll_0 rfl (lv_at hl 0 rfl) ?_
  refine lv_bipush (v := 50) hx hb dX12_passesAll_1 (by decide) ?_
  refine lv_iload_n hx hb dX12_passesAll_3 rfl (lv_at hl 1 rfl) ?_
  refine lv_imul hx hb dX12_passesAll_4 ?_
  refine lv_topi (fun x_1 e_1 => ?_)
  have h9 : x_1 = nI (50 * wh) := by rw [e_1]; exact pk_mul 50 wh
  subst h9
  refine va_put (D := (dC, dI)) (ci := 12) (v := Value.int (nI (50 * wh))) (ty := .int) (C := RX12) (T := TX12) (N := 33) hx hb hts inX12 tyX12 tyX12_ok nmX12 hown hK hP hD hS 0 rfl rfl 19 (by decide) (hts _ (gw kw_736 rfl)) (fun _ h9 => h9) rfl (by decide +kernel) rfl rfl (Nat.le_of_ble_eq_true rfl) dX12_passesAll_5 (fun H locs hP hD hS => ?_)
  have hpd9 : PDx (dC, dI) classes A H [oX12 g0 m_refused m_kind m_figure m_weight m_got m_setting men msy mdn m_tape m_letter m_letterAt m_told tp mat stm m_kept him ki (nI (50 * wh)) m_price m_offer m_gets m_yes m_buys m_ends m_carried m_row rm m_keptRow m_likeGets m_likePrice m_ahead, cI aC m_kept 100 kp, cI aC m_kind 9 kf, cI aC m_figure 9 ff, cI aC m_weight 9 wf, cI aC m_got 8 pf, cI aC m_setting 5 stf] := ⟨hP, hD⟩
  have hP := hpd9.1
  have hD := hpd9.2
  clear hpd9
  refine lv_aload_n hx hb dX12_passesAll_8 rfl (lv_at hl 0 rfl) ?_
  refine lv_iload_n hx hb dX12_passesAll_9 rfl (lv_at hl 2 rfl) ?_
  refine va_put (D := (dC, dI)) (ci := 12) (v := Value.int 0) (ty := .boolean) (C := RX12) (T := TX12) (N := 33) hx hb hts inX12 tyX12 tyX12_ok nmX12 hown hK hP hD hS 0 rfl rfl 18 (by decide) (hts _ (gw kw_735 rfl)) (fun _ h9 => h9) rfl (by decide +kernel) rfl rfl (Nat.le_of_ble_eq_true rfl) dX12_passesAll_10 (fun H locs hP hD hS => ?_)
  have hpd9 : PDx (dC, dI) classes A H [oX12 g0 m_refused m_kind m_figure m_weight m_got m_setting men msy mdn m_tape m_letter m_letterAt m_told tp mat stm m_kept him 0 (nI (50 * wh)) m_price m_offer m_gets m_yes m_buys m_ends m_carried m_row rm m_keptRow m_likeGets m_likePrice m_ahead, cI aC m_kept 100 kp, cI aC m_kind 9 kf, cI aC m_figure 9 ff, cI aC m_weight 9 wf, cI aC m_got 8 pf, cI aC m_setting 5 stf] := ⟨hP, hD⟩
  have hP := hpd9.1
  have hD := hpd9.2
  clear hpd9
  refine lv_aload_n hx hb dX12_passesAll_13 rfl (lv_at hl 0 rfl) ?_
  refine lv_aload_n hx hb dX12_passesAll_14 rfl (lv_at hl 0 rfl) ?_
  refine va_get (D := (dC, dI)) (ci := 12) (v := Value.ref m_kind) (C := RX12) (T := TX12) (N := 33) hx hb hts inX12 hown hK hP 0 rfl rfl 1 (by decide) (hts _ (gw kw_718 rfl)) (fun _ h9 => h9) rfl dX12_passesAll_15 ?_
  have hpd9 := pdf_N (cx := [oX12 g0 m_refused m_kind m_figure m_weight m_got m_setting men msy mdn m_tape m_letter m_letterAt m_told tp mat stm m_kept him 0 (nI (50 * wh)) m_price m_offer m_gets m_yes m_buys m_ends m_carried m_row rm m_keptRow m_likeGets m_likePrice m_ahead, cI aC m_kept 100 kp, cI aC m_kind 9 kf]) hP hD hS hA [0, 1, 2] (by decide) rfl
  have hPc := hpd9.1
  have hDc := hpd9.2.1
  have hFc := hpd9.2.2
  clear hpd9
  refine va_callv (va_runV (As := [Value.ref m_kind]) (rest := []) ⟨hx, hb, hml, hown, hts⟩ (c_X12_passes_l l dC dI aC H.size g0 m_refused m_kind m_figure m_weight m_got m_setting m_tape m_letter m_letterAt m_told m_kept m_price m_offer m_gets m_yes m_buys m_ends m_carried m_row m_keptRow m_likeGets m_likePrice m_ahead men msy mdn tp mat stm him rm m_kind 9 (50 * wh) kf kp (by omega)) ⟨(callB_of 1 hts (gG kw_854) rfl rfl rfl (hts _ (gw kw_13 rfl)) (hts _ (gw kw_851 rfl)) hd_X12_passes ⟨Nat.le_of_ble_eq_true rfl, Nat.le_of_ble_eq_true rfl⟩), (hts _ (gw kw_853 rfl)), (hts _ (gw ks_40 rfl))⟩ ⟨fb_std, va_recv (q := (RX12, TX12, 33)) hK hPc (ci := 12) (q0 := 0) rfl rfl, pre_std hPc hK hDc hN⟩ rfl rfl hl.1 rfl (lv_room (Nat.le_of_ble_eq_true rfl)) dX12_passesAll_18 ⟨Nat.le_of_ble_eq_true rfl, Nat.le_of_ble_eq_true rfl⟩) hS (fun q _ h => hFc q h) hFc (fun u9 t9 H1 locs ht hvm hw_2 hB hz1 hk1 hS => ?_)
  obtain ⟨u_3, rfl⟩ : ∃ z, z = u9 := ⟨_, rfl⟩
  obtain ⟨hP1, hK1, hD1⟩ := hB
  rw [ht] at hP1
  clear hK1
  try dsimp only at hw_2
  have hpd9 : PDx (dC, dI) classes A H1 [cI aC m_figure 9 ff, cI aC m_weight 9 wf, cI aC m_got 8 pf, cI aC m_setting 5 stf, oX12 g0 m_refused m_kind m_figure m_weight m_got m_setting men msy mdn m_tape m_letter m_letterAt m_told tp mat stm m_kept him 0 (nI ((50 * wh) + 9)) m_price m_offer m_gets m_yes m_buys m_ends m_carried m_row rm m_keptRow m_likeGets m_likePrice m_ahead, cI aC m_kept 100 kp, cI aC m_kind 9 u_3] := jn_N (wr := [cI aC m_figure 9 ff, cI aC m_weight 9 wf, cI aC m_got 8 pf, cI aC m_setting 5 stf]) hFc hk1 hP1 hD1 hP hD [0, 1, 2] [3, 4, 5, 6] rfl rfl (by decide) (by decide)
  have hP := hpd9.1
  have hD := hpd9.2
  clear hpd9
  generalize H1 = H at hP hS ⊢
  clear hPc hDc hFc hz1 hk1 hP1 hD1 ht hvm
  have hq_18 := hw_2
  have hP : va_P (dC, dI) classes [cI aC m_figure 9 ff, cI aC m_weight 9 wf, cI aC m_got 8 pf, cI aC m_setting 5 stf, oX12 g0 m_refused m_kind m_figure m_weight m_got m_setting men msy mdn m_tape m_letter m_letterAt m_told tp mat stm m_kept him 0 (nI (50 * wh + 9)) m_price m_offer m_gets m_yes m_buys m_ends m_carried m_row rm m_keptRow m_likeGets m_likePrice m_ahead, cI aC m_kept 100 kp, cI aC m_kind 9 u_3] H := hP
  have hD : va_D A [cI aC m_figure 9 ff, cI aC m_weight 9 wf, cI aC m_got 8 pf, cI aC m_setting 5 stf, oX12 g0 m_refused m_kind m_figure m_weight m_got m_setting men msy mdn m_tape m_letter m_letterAt m_told tp mat stm m_kept him 0 (nI (50 * wh + 9)) m_price m_offer m_gets m_yes m_buys m_ends m_carried m_row rm m_keptRow m_likeGets m_likePrice m_ahead, cI aC m_kept 100 kp, cI aC m_kind 9 u_3] := hD
  refine lv_aload_n hx hb dX12_passesAll_21 rfl (lv_at hl 0 rfl) ?_
  refine lv_aload_n hx hb dX12_passesAll_22 rfl (lv_at hl 0 rfl) ?_
  refine va_get (D := (dC, dI)) (ci := 12) (v := Value.ref m_figure) (C := RX12) (T := TX12) (N := 33) hx hb hts inX12 hown hK hP 4 rfl rfl 2 (by decide) (hts _ (gw kw_719 rfl)) (fun _ h9 => h9) rfl dX12_passesAll_23 ?_
  have hpd9 := pdf_N (cx := [oX12 g0 m_refused m_kind m_figure m_weight m_got m_setting men msy mdn m_tape m_letter m_letterAt m_told tp mat stm m_kept him 0 (nI (50 * wh + 9)) m_price m_offer m_gets m_yes m_buys m_ends m_carried m_row rm m_keptRow m_likeGets m_likePrice m_ahead, cI aC m_kept 100 kp, cI aC m_figure 9 ff]) hP hD hS hA [4, 5, 0] (by decide) rfl
  have hPc := hpd9.1
  have hDc := hpd9.2.1
  have hFc := hpd9.2.2
  clear hpd9
  refine va_callv (va_runV (As := [Value.ref m_figure]) (rest := []) ⟨hx, hb, hml, hown, hts⟩ (c_X12_passes_l l dC dI aC H.size g0 m_refused m_kind m_figure m_weight m_got m_setting m_tape m_letter m_letterAt m_told m_kept m_price m_offer m_gets m_yes m_buys m_ends m_carried m_row m_keptRow m_likeGets m_likePrice m_ahead men msy mdn tp mat stm him rm m_figure 9 (50 * wh + 9) ff kp (by omega)) ⟨(callB_of 1 hts (gG kw_854) rfl rfl rfl (hts _ (gw kw_13 rfl)) (hts _ (gw kw_851 rfl)) hd_X12_passes ⟨Nat.le_of_ble_eq_true rfl, Nat.le_of_ble_eq_true rfl⟩), (hts _ (gw kw_853 rfl)), (hts _ (gw ks_40 rfl))⟩ ⟨fb_std, va_recv (q := (RX12, TX12, 33)) hK hPc (ci := 12) (q0 := 0) rfl rfl, pre_std hPc hK hDc hN⟩ rfl rfl hl.1 rfl (lv_room (Nat.le_of_ble_eq_true rfl)) dX12_passesAll_26 ⟨Nat.le_of_ble_eq_true rfl, Nat.le_of_ble_eq_true rfl⟩) hS (fun q _ h => hFc q h) hFc (fun u9 t9 H1 locs ht hvm hw_4 hB hz1 hk1 hS => ?_)
  obtain ⟨u_5, rfl⟩ : ∃ z, z = u9 := ⟨_, rfl⟩
  obtain ⟨hP1, hK1, hD1⟩ := hB
  rw [ht] at hP1
  clear hK1
  try dsimp only at hw_4
  have hpd9 : PDx (dC, dI) classes A H1 [cI aC m_weight 9 wf, cI aC m_got 8 pf, cI aC m_setting 5 stf, cI aC m_kind 9 u_3, oX12 g0 m_refused m_kind m_figure m_weight m_got m_setting men msy mdn m_tape m_letter m_letterAt m_told tp mat stm m_kept him 0 (nI ((50 * wh + 9) + 9)) m_price m_offer m_gets m_yes m_buys m_ends m_carried m_row rm m_keptRow m_likeGets m_likePrice m_ahead, cI aC m_kept 100 kp, cI aC m_figure 9 u_5] := jn_N (wr := [cI aC m_weight 9 wf, cI aC m_got 8 pf, cI aC m_setting 5 stf, cI aC m_kind 9 u_3]) hFc hk1 hP1 hD1 hP hD [4, 5, 0] [1, 2, 3, 6] rfl rfl (by decide) (by decide)
  have hP := hpd9.1
  have hD := hpd9.2
  clear hpd9
  generalize H1 = H at hP hS ⊢
  clear hPc hDc hFc hz1 hk1 hP1 hD1 ht hvm
  have hq_26 := hw_4
  have hP : va_P (dC, dI) classes [cI aC m_weight 9 wf, cI aC m_got 8 pf, cI aC m_setting 5 stf, cI aC m_kind 9 u_3, oX12 g0 m_refused m_kind m_figure m_weight m_got m_setting men msy mdn m_tape m_letter m_letterAt m_told tp mat stm m_kept him 0 (nI (50 * wh + 18)) m_price m_offer m_gets m_yes m_buys m_ends m_carried m_row rm m_keptRow m_likeGets m_likePrice m_ahead, cI aC m_kept 100 kp, cI aC m_figure 9 u_5] H := hP
  have hD : va_D A [cI aC m_weight 9 wf, cI aC m_got 8 pf, cI aC m_setting 5 stf, cI aC m_kind 9 u_3, oX12 g0 m_refused m_kind m_figure m_weight m_got m_setting men msy mdn m_tape m_letter m_letterAt m_told tp mat stm m_kept him 0 (nI (50 * wh + 18)) m_price m_offer m_gets m_yes m_buys m_ends m_carried m_row rm m_keptRow m_likeGets m_likePrice m_ahead, cI aC m_kept 100 kp, cI aC m_figure 9 u_5] := hD
  refine lv_aload_n hx hb dX12_passesAll_29 rfl (lv_at hl 0 rfl) ?_
  refine lv_aload_n hx hb dX12_passesAll_30 rfl (lv_at hl 0 rfl) ?_
  refine va_get (D := (dC, dI)) (ci := 12) (v := Value.ref m_weight) (C := RX12) (T := TX12) (N := 33) hx hb hts inX12 hown hK hP 4 rfl rfl 3 (by decide) (hts _ (gw kw_720 rfl)) (fun _ h9 => h9) rfl dX12_passesAll_31 ?_
  have hpd9 := pdf_N (cx := [oX12 g0 m_refused m_kind m_figure m_weight m_got m_setting men msy mdn m_tape m_letter m_letterAt m_told tp mat stm m_kept him 0 (nI (50 * wh + 18)) m_price m_offer m_gets m_yes m_buys m_ends m_carried m_row rm m_keptRow m_likeGets m_likePrice m_ahead, cI aC m_kept 100 kp, cI aC m_weight 9 wf]) hP hD hS hA [4, 5, 0] (by decide) rfl
  have hPc := hpd9.1
  have hDc := hpd9.2.1
  have hFc := hpd9.2.2
  clear hpd9
  refine va_callv (va_runV (As := [Value.ref m_weight]) (rest := []) ⟨hx, hb, hml, hown, hts⟩ (c_X12_passes_l l dC dI aC H.size g0 m_refused m_kind m_figure m_weight m_got m_setting m_tape m_letter m_letterAt m_told m_kept m_price m_offer m_gets m_yes m_buys m_ends m_carried m_row m_keptRow m_likeGets m_likePrice m_ahead men msy mdn tp mat stm him rm m_weight 9 (50 * wh + 18) wf kp (by omega)) ⟨(callB_of 1 hts (gG kw_854) rfl rfl rfl (hts _ (gw kw_13 rfl)) (hts _ (gw kw_851 rfl)) hd_X12_passes ⟨Nat.le_of_ble_eq_true rfl, Nat.le_of_ble_eq_true rfl⟩), (hts _ (gw kw_853 rfl)), (hts _ (gw ks_40 rfl))⟩ ⟨fb_std, va_recv (q := (RX12, TX12, 33)) hK hPc (ci := 12) (q0 := 0) rfl rfl, pre_std hPc hK hDc hN⟩ rfl rfl hl.1 rfl (lv_room (Nat.le_of_ble_eq_true rfl)) dX12_passesAll_34 ⟨Nat.le_of_ble_eq_true rfl, Nat.le_of_ble_eq_true rfl⟩) hS (fun q _ h => hFc q h) hFc (fun u9 t9 H1 locs ht hvm hw_6 hB hz1 hk1 hS => ?_)
  obtain ⟨u_7, rfl⟩ : ∃ z, z = u9 := ⟨_, rfl⟩
  obtain ⟨hP1, hK1, hD1⟩ := hB
  rw [ht] at hP1
  clear hK1
  try dsimp only at hw_6
  have hpd9 : PDx (dC, dI) classes A H1 [cI aC m_got 8 pf, cI aC m_setting 5 stf, cI aC m_kind 9 u_3, cI aC m_figure 9 u_5, oX12 g0 m_refused m_kind m_figure m_weight m_got m_setting men msy mdn m_tape m_letter m_letterAt m_told tp mat stm m_kept him 0 (nI ((50 * wh + 18) + 9)) m_price m_offer m_gets m_yes m_buys m_ends m_carried m_row rm m_keptRow m_likeGets m_likePrice m_ahead, cI aC m_kept 100 kp, cI aC m_weight 9 u_7] := jn_N (wr := [cI aC m_got 8 pf, cI aC m_setting 5 stf, cI aC m_kind 9 u_3, cI aC m_figure 9 u_5]) hFc hk1 hP1 hD1 hP hD [4, 5, 0] [1, 2, 3, 6] rfl rfl (by decide) (by decide)
  have hP := hpd9.1
  have hD := hpd9.2
  clear hpd9
  generalize H1 = H at hP hS ⊢
  clear hPc hDc hFc hz1 hk1 hP1 hD1 ht hvm
  have hq_34 := hw_6
  have hP : va_P (dC, dI) classes [cI aC m_got 8 pf, cI aC m_setting 5 stf, cI aC m_kind 9 u_3, cI aC m_figure 9 u_5, oX12 g0 m_refused m_kind m_figure m_weight m_got m_setting men msy mdn m_tape m_letter m_letterAt m_told tp mat stm m_kept him 0 (nI (50 * wh + 27)) m_price m_offer m_gets m_yes m_buys m_ends m_carried m_row rm m_keptRow m_likeGets m_likePrice m_ahead, cI aC m_kept 100 kp, cI aC m_weight 9 u_7] H := hP
  have hD : va_D A [cI aC m_got 8 pf, cI aC m_setting 5 stf, cI aC m_kind 9 u_3, cI aC m_figure 9 u_5, oX12 g0 m_refused m_kind m_figure m_weight m_got m_setting men msy mdn m_tape m_letter m_letterAt m_told tp mat stm m_kept him 0 (nI (50 * wh + 27)) m_price m_offer m_gets m_yes m_buys m_ends m_carried m_row rm m_keptRow m_likeGets m_likePrice m_ahead, cI aC m_kept 100 kp, cI aC m_weight 9 u_7] := hD
  refine lv_aload_n hx hb dX12_passesAll_37 rfl (lv_at hl 0 rfl) ?_
  refine lv_aload_n hx hb dX12_passesAll_38 rfl (lv_at hl 0 rfl) ?_
  refine va_get (D := (dC, dI)) (ci := 12) (v := Value.ref m_got) (C := RX12) (T := TX12) (N := 33) hx hb hts inX12 hown hK hP 4 rfl rfl 4 (by decide) (hts _ (gw kw_721 rfl)) (fun _ h9 => h9) rfl dX12_passesAll_39 ?_
  have hpd9 := pdf_N (cx := [oX12 g0 m_refused m_kind m_figure m_weight m_got m_setting men msy mdn m_tape m_letter m_letterAt m_told tp mat stm m_kept him 0 (nI (50 * wh + 27)) m_price m_offer m_gets m_yes m_buys m_ends m_carried m_row rm m_keptRow m_likeGets m_likePrice m_ahead, cI aC m_kept 100 kp, cI aC m_got 8 pf]) hP hD hS hA [4, 5, 0] (by decide) rfl
  have hPc := hpd9.1
  have hDc := hpd9.2.1
  have hFc := hpd9.2.2
  clear hpd9
  refine va_callv (va_runV (As := [Value.ref m_got]) (rest := []) ⟨hx, hb, hml, hown, hts⟩ (c_X12_passes_l l dC dI aC H.size g0 m_refused m_kind m_figure m_weight m_got m_setting m_tape m_letter m_letterAt m_told m_kept m_price m_offer m_gets m_yes m_buys m_ends m_carried m_row m_keptRow m_likeGets m_likePrice m_ahead men msy mdn tp mat stm him rm m_got 8 (50 * wh + 27) pf kp (by omega)) ⟨(callB_of 1 hts (gG kw_854) rfl rfl rfl (hts _ (gw kw_13 rfl)) (hts _ (gw kw_851 rfl)) hd_X12_passes ⟨Nat.le_of_ble_eq_true rfl, Nat.le_of_ble_eq_true rfl⟩), (hts _ (gw kw_853 rfl)), (hts _ (gw ks_40 rfl))⟩ ⟨fb_std, va_recv (q := (RX12, TX12, 33)) hK hPc (ci := 12) (q0 := 0) rfl rfl, pre_std hPc hK hDc hN⟩ rfl rfl hl.1 rfl (lv_room (Nat.le_of_ble_eq_true rfl)) dX12_passesAll_42 ⟨Nat.le_of_ble_eq_true rfl, Nat.le_of_ble_eq_true rfl⟩) hS (fun q _ h => hFc q h) hFc (fun u9 t9 H1 locs ht hvm hw_8 hB hz1 hk1 hS => ?_)
  obtain ⟨u_9, rfl⟩ : ∃ z, z = u9 := ⟨_, rfl⟩
  obtain ⟨hP1, hK1, hD1⟩ := hB
  rw [ht] at hP1
  clear hK1
  try dsimp only at hw_8
  have hpd9 : PDx (dC, dI) classes A H1 [cI aC m_setting 5 stf, cI aC m_kind 9 u_3, cI aC m_figure 9 u_5, cI aC m_weight 9 u_7, oX12 g0 m_refused m_kind m_figure m_weight m_got m_setting men msy mdn m_tape m_letter m_letterAt m_told tp mat stm m_kept him 0 (nI ((50 * wh + 27) + 8)) m_price m_offer m_gets m_yes m_buys m_ends m_carried m_row rm m_keptRow m_likeGets m_likePrice m_ahead, cI aC m_kept 100 kp, cI aC m_got 8 u_9] := jn_N (wr := [cI aC m_setting 5 stf, cI aC m_kind 9 u_3, cI aC m_figure 9 u_5, cI aC m_weight 9 u_7]) hFc hk1 hP1 hD1 hP hD [4, 5, 0] [1, 2, 3, 6] rfl rfl (by decide) (by decide)
  have hP := hpd9.1
  have hD := hpd9.2
  clear hpd9
  generalize H1 = H at hP hS ⊢
  clear hPc hDc hFc hz1 hk1 hP1 hD1 ht hvm
  have hq_42 := hw_8
  have hP : va_P (dC, dI) classes [cI aC m_setting 5 stf, cI aC m_kind 9 u_3, cI aC m_figure 9 u_5, cI aC m_weight 9 u_7, oX12 g0 m_refused m_kind m_figure m_weight m_got m_setting men msy mdn m_tape m_letter m_letterAt m_told tp mat stm m_kept him 0 (nI (50 * wh + 35)) m_price m_offer m_gets m_yes m_buys m_ends m_carried m_row rm m_keptRow m_likeGets m_likePrice m_ahead, cI aC m_kept 100 kp, cI aC m_got 8 u_9] H := hP
  have hD : va_D A [cI aC m_setting 5 stf, cI aC m_kind 9 u_3, cI aC m_figure 9 u_5, cI aC m_weight 9 u_7, oX12 g0 m_refused m_kind m_figure m_weight m_got m_setting men msy mdn m_tape m_letter m_letterAt m_told tp mat stm m_kept him 0 (nI (50 * wh + 35)) m_price m_offer m_gets m_yes m_buys m_ends m_carried m_row rm m_keptRow m_likeGets m_likePrice m_ahead, cI aC m_kept 100 kp, cI aC m_got 8 u_9] := hD
  refine lv_aload_n hx hb dX12_passesAll_45 rfl (lv_at hl 0 rfl) ?_
  refine lv_aload_n hx hb dX12_passesAll_46 rfl (lv_at hl 0 rfl) ?_
  refine va_get (D := (dC, dI)) (ci := 12) (v := Value.ref m_setting) (C := RX12) (T := TX12) (N := 33) hx hb hts inX12 hown hK hP 4 rfl rfl 5 (by decide) (hts _ (gw kw_722 rfl)) (fun _ h9 => h9) rfl dX12_passesAll_47 ?_
  have hpd9 := pdf_N (cx := [oX12 g0 m_refused m_kind m_figure m_weight m_got m_setting men msy mdn m_tape m_letter m_letterAt m_told tp mat stm m_kept him 0 (nI (50 * wh + 35)) m_price m_offer m_gets m_yes m_buys m_ends m_carried m_row rm m_keptRow m_likeGets m_likePrice m_ahead, cI aC m_kept 100 kp, cI aC m_setting 5 stf]) hP hD hS hA [4, 5, 0] (by decide) rfl
  have hPc := hpd9.1
  have hDc := hpd9.2.1
  have hFc := hpd9.2.2
  clear hpd9
  refine va_callv (va_runV (As := [Value.ref m_setting]) (rest := []) ⟨hx, hb, hml, hown, hts⟩ (c_X12_passes_l l dC dI aC H.size g0 m_refused m_kind m_figure m_weight m_got m_setting m_tape m_letter m_letterAt m_told m_kept m_price m_offer m_gets m_yes m_buys m_ends m_carried m_row m_keptRow m_likeGets m_likePrice m_ahead men msy mdn tp mat stm him rm m_setting 5 (50 * wh + 35) stf kp (by omega)) ⟨(callB_of 1 hts (gG kw_854) rfl rfl rfl (hts _ (gw kw_13 rfl)) (hts _ (gw kw_851 rfl)) hd_X12_passes ⟨Nat.le_of_ble_eq_true rfl, Nat.le_of_ble_eq_true rfl⟩), (hts _ (gw kw_853 rfl)), (hts _ (gw ks_40 rfl))⟩ ⟨fb_std, va_recv (q := (RX12, TX12, 33)) hK hPc (ci := 12) (q0 := 0) rfl rfl, pre_std hPc hK hDc hN⟩ rfl rfl hl.1 rfl (lv_room (Nat.le_of_ble_eq_true rfl)) dX12_passesAll_50 ⟨Nat.le_of_ble_eq_true rfl, Nat.le_of_ble_eq_true rfl⟩) hS (fun q _ h => hFc q h) hFc (fun u9 t9 H1 locs ht hvm hw_10 hB hz1 hk1 hS => ?_)
  obtain ⟨u_11, rfl⟩ : ∃ z, z = u9 := ⟨_, rfl⟩
  obtain ⟨hP1, hK1, hD1⟩ := hB
  rw [ht] at hP1
  clear hK1
  try dsimp only at hw_10
  have hpd9 : PDx (dC, dI) classes A H1 [cI aC m_kind 9 u_3, cI aC m_figure 9 u_5, cI aC m_weight 9 u_7, cI aC m_got 8 u_9, oX12 g0 m_refused m_kind m_figure m_weight m_got m_setting men msy mdn m_tape m_letter m_letterAt m_told tp mat stm m_kept him 0 (nI ((50 * wh + 35) + 5)) m_price m_offer m_gets m_yes m_buys m_ends m_carried m_row rm m_keptRow m_likeGets m_likePrice m_ahead, cI aC m_kept 100 kp, cI aC m_setting 5 u_11] := jn_N (wr := [cI aC m_kind 9 u_3, cI aC m_figure 9 u_5, cI aC m_weight 9 u_7, cI aC m_got 8 u_9]) hFc hk1 hP1 hD1 hP hD [4, 5, 0] [1, 2, 3, 6] rfl rfl (by decide) (by decide)
  have hP := hpd9.1
  have hD := hpd9.2
  clear hpd9
  generalize H1 = H at hP hS ⊢
  clear hPc hDc hFc hz1 hk1 hP1 hD1 ht hvm
  have hq_50 := hw_10
  have hP : va_P (dC, dI) classes [cI aC m_kind 9 u_3, cI aC m_figure 9 u_5, cI aC m_weight 9 u_7, cI aC m_got 8 u_9, oX12 g0 m_refused m_kind m_figure m_weight m_got m_setting men msy mdn m_tape m_letter m_letterAt m_told tp mat stm m_kept him 0 (nI (50 * wh + 40)) m_price m_offer m_gets m_yes m_buys m_ends m_carried m_row rm m_keptRow m_likeGets m_likePrice m_ahead, cI aC m_kept 100 kp, cI aC m_setting 5 u_11] H := hP
  have hD : va_D A [cI aC m_kind 9 u_3, cI aC m_figure 9 u_5, cI aC m_weight 9 u_7, cI aC m_got 8 u_9, oX12 g0 m_refused m_kind m_figure m_weight m_got m_setting men msy mdn m_tape m_letter m_letterAt m_told tp mat stm m_kept him 0 (nI (50 * wh + 40)) m_price m_offer m_gets m_yes m_buys m_ends m_carried m_row rm m_keptRow m_likeGets m_likePrice m_ahead, cI aC m_kept 100 kp, cI aC m_setting 5 u_11] := hD
  refine lv_aload_n hx hb dX12_passesAll_53 rfl (lv_at hl 0 rfl) ?_
  refine lv_aload_n hx hb dX12_passesAll_54 rfl (lv_at hl 0 rfl) ?_
  refine lv_aload_n hx hb dX12_passesAll_55 rfl (lv_at hl 0 rfl) ?_
  refine va_get (D := (dC, dI)) (ci := 12) (v := Value.int men) (C := RX12) (T := TX12) (N := 33) hx hb hts inX12 hown hK hP 4 rfl rfl 6 (by decide) (hts _ (gw kw_723 rfl)) (fun _ h9 => h9) rfl dX12_passesAll_56 ?_
  have hpd9 := pdf_N (cx := [oX12 g0 m_refused m_kind m_figure m_weight m_got m_setting men msy mdn m_tape m_letter m_letterAt m_told tp mat stm m_kept him 0 (nI (50 * wh + 40)) m_price m_offer m_gets m_yes m_buys m_ends m_carried m_row rm m_keptRow m_likeGets m_likePrice m_ahead, cI aC m_kept 100 kp]) hP hD hS hA [4, 5] (by decide) rfl
  have hPc := hpd9.1
  have hDc := hpd9.2.1
  have hFc := hpd9.2.2
  clear hpd9
  refine va_calli (va_runV (As := [Value.int men]) (rest := [Value.ref g0]) ⟨hx, hb, hml, hown, hts⟩ (c_X12_passOne_l l dC dI aC H.size g0 m_refused m_kind m_figure m_weight m_got m_setting m_tape m_letter m_letterAt m_told m_kept m_price m_offer m_gets m_yes m_buys m_ends m_carried m_row m_keptRow m_likeGets m_likePrice m_ahead men msy mdn tp mat stm him rm men (50 * wh + 40) kp (by omega)) ⟨(callB_of 1 hts (gG kw_858) rfl rfl rfl (hts _ (gw kw_13 rfl)) (hts _ (gw kw_855 rfl)) hd_X12_passOne ⟨Nat.le_of_ble_eq_true rfl, Nat.le_of_ble_eq_true rfl⟩), (hts _ (gw kw_857 rfl)), (hts _ (gw ks_41 rfl))⟩ ⟨fb_std, va_recv (q := (RX12, TX12, 33)) hK hPc (ci := 12) (q0 := 0) rfl rfl, pre_std hPc hK hDc hN⟩ rfl rfl hl.1 rfl (lv_room (Nat.le_of_ble_eq_true rfl)) dX12_passesAll_59 ⟨Nat.le_of_ble_eq_true rfl, Nat.le_of_ble_eq_true rfl⟩) hS (fun q _ h => hFc q h) hFc (fun x_12 u9 t9 H1 locs ht hvm hw_12 hB hz1 hk1 hS => ?_)
  obtain ⟨hP1, hK1, hD1⟩ := hB
  rw [ht] at hP1
  clear hK1
  try dsimp only at hw_12
  have hpd9 : PDx (dC, dI) classes A H1 [cI aC m_kind 9 u_3, cI aC m_figure 9 u_5, cI aC m_weight 9 u_7, cI aC m_got 8 u_9, cI aC m_setting 5 u_11, oX12 g0 m_refused m_kind m_figure m_weight m_got m_setting men msy mdn m_tape m_letter m_letterAt m_told tp mat stm m_kept him 0 (nI ((50 * wh + 40) + 1)) m_price m_offer m_gets m_yes m_buys m_ends m_carried m_row rm m_keptRow m_likeGets m_likePrice m_ahead, cI aC m_kept 100 kp] := jn_N (wr := [cI aC m_kind 9 u_3, cI aC m_figure 9 u_5, cI aC m_weight 9 u_7, cI aC m_got 8 u_9, cI aC m_setting 5 u_11]) hFc hk1 hP1 hD1 hP hD [4, 5] [0, 1, 2, 3, 6] rfl rfl (by decide) (by decide)
  have hP := hpd9.1
  have hD := hpd9.2
  clear hpd9
  generalize H1 = H at hP hS ⊢
  clear hPc hDc hFc hz1 hk1 hP1 hD1 ht hvm
  have hr_59 := hw_12
  refine va_put (D := (dC, dI)) (ci := 12) (v := Value.int x_12) (ty := .int) (C := RX12) (T := TX12) (N := 33) hx hb hts inX12 tyX12 tyX12_ok nmX12 hown hK hP hD hS 5 rfl rfl 6 (by decide) (hts _ (gw kw_723 rfl)) (fun _ h9 => h9) rfl (by decide +kernel) rfl rfl (Nat.le_of_ble_eq_true rfl) dX12_passesAll_62 (fun H locs hP hD hS => ?_)
  have hpd9 : PDx (dC, dI) classes A H [cI aC m_kind 9 u_3, cI aC m_figure 9 u_5, cI aC m_weight 9 u_7, cI aC m_got 8 u_9, cI aC m_setting 5 u_11, oX12 g0 m_refused m_kind m_figure m_weight m_got m_setting x_12 msy mdn m_tape m_letter m_letterAt m_told tp mat stm m_kept him 0 (nI ((50 * wh + 40) + 1)) m_price m_offer m_gets m_yes m_buys m_ends m_carried m_row rm m_keptRow m_likeGets m_likePrice m_ahead, cI aC m_kept 100 kp] := ⟨hP, hD⟩
  have hP := hpd9.1
  have hD := hpd9.2
  clear hpd9
  have hP : va_P (dC, dI) classes [cI aC m_kind 9 u_3, cI aC m_figure 9 u_5, cI aC m_weight 9 u_7, cI aC m_got 8 u_9, cI aC m_setting 5 u_11, oX12 g0 m_refused m_kind m_figure m_weight m_got m_setting x_12 msy mdn m_tape m_letter m_letterAt m_told tp mat stm m_kept him 0 (nI (50 * wh + 41)) m_price m_offer m_gets m_yes m_buys m_ends m_carried m_row rm m_keptRow m_likeGets m_likePrice m_ahead, cI aC m_kept 100 kp] H := hP
  have hD : va_D A [cI aC m_kind 9 u_3, cI aC m_figure 9 u_5, cI aC m_weight 9 u_7, cI aC m_got 8 u_9, cI aC m_setting 5 u_11, oX12 g0 m_refused m_kind m_figure m_weight m_got m_setting x_12 msy mdn m_tape m_letter m_letterAt m_told tp mat stm m_kept him 0 (nI (50 * wh + 41)) m_price m_offer m_gets m_yes m_buys m_ends m_carried m_row rm m_keptRow m_likeGets m_likePrice m_ahead, cI aC m_kept 100 kp] := hD
  refine lv_aload_n hx hb dX12_passesAll_65 rfl (lv_at hl 0 rfl) ?_
  refine lv_aload_n hx hb dX12_passesAll_66 rfl (lv_at hl 0 rfl) ?_
  refine lv_aload_n hx hb dX12_passesAll_67 rfl (lv_at hl 0 rfl) ?_
  refine va_get (D := (dC, dI)) (ci := 12) (v := Value.int msy) (C := RX12) (T := TX12) (N := 33) hx hb hts inX12 hown hK hP 5 rfl rfl 7 (by decide) (hts _ (gw kw_724 rfl)) (fun _ h9 => h9) rfl dX12_passesAll_68 ?_
  have hpd9 := pdf_N (cx := [oX12 g0 m_refused m_kind m_figure m_weight m_got m_setting x_12 msy mdn m_tape m_letter m_letterAt m_told tp mat stm m_kept him 0 (nI (50 * wh + 41)) m_price m_offer m_gets m_yes m_buys m_ends m_carried m_row rm m_keptRow m_likeGets m_likePrice m_ahead, cI aC m_kept 100 kp]) hP hD hS hA [5, 6] (by decide) rfl
  have hPc := hpd9.1
  have hDc := hpd9.2.1
  have hFc := hpd9.2.2
  clear hpd9
  refine va_calli (va_runV (As := [Value.int msy]) (rest := [Value.ref g0]) ⟨hx, hb, hml, hown, hts⟩ (c_X12_passOne_l l dC dI aC H.size g0 m_refused m_kind m_figure m_weight m_got m_setting m_tape m_letter m_letterAt m_told m_kept m_price m_offer m_gets m_yes m_buys m_ends m_carried m_row m_keptRow m_likeGets m_likePrice m_ahead x_12 msy mdn tp mat stm him rm msy (50 * wh + 41) kp (by omega)) ⟨(callB_of 1 hts (gG kw_858) rfl rfl rfl (hts _ (gw kw_13 rfl)) (hts _ (gw kw_855 rfl)) hd_X12_passOne ⟨Nat.le_of_ble_eq_true rfl, Nat.le_of_ble_eq_true rfl⟩), (hts _ (gw kw_857 rfl)), (hts _ (gw ks_41 rfl))⟩ ⟨fb_std, va_recv (q := (RX12, TX12, 33)) hK hPc (ci := 12) (q0 := 0) rfl rfl, pre_std hPc hK hDc hN⟩ rfl rfl hl.1 rfl (lv_room (Nat.le_of_ble_eq_true rfl)) dX12_passesAll_71 ⟨Nat.le_of_ble_eq_true rfl, Nat.le_of_ble_eq_true rfl⟩) hS (fun q _ h => hFc q h) hFc (fun x_13 u9 t9 H1 locs ht hvm hw_13 hB hz1 hk1 hS => ?_)
  obtain ⟨hP1, hK1, hD1⟩ := hB
  rw [ht] at hP1
  clear hK1
  try dsimp only at hw_13
  have hpd9 : PDx (dC, dI) classes A H1 [cI aC m_kind 9 u_3, cI aC m_figure 9 u_5, cI aC m_weight 9 u_7, cI aC m_got 8 u_9, cI aC m_setting 5 u_11, oX12 g0 m_refused m_kind m_figure m_weight m_got m_setting x_12 msy mdn m_tape m_letter m_letterAt m_told tp mat stm m_kept him 0 (nI ((50 * wh + 41) + 1)) m_price m_offer m_gets m_yes m_buys m_ends m_carried m_row rm m_keptRow m_likeGets m_likePrice m_ahead, cI aC m_kept 100 kp] := jn_N (wr := [cI aC m_kind 9 u_3, cI aC m_figure 9 u_5, cI aC m_weight 9 u_7, cI aC m_got 8 u_9, cI aC m_setting 5 u_11]) hFc hk1 hP1 hD1 hP hD [5, 6] [0, 1, 2, 3, 4] rfl rfl (by decide) (by decide)
  have hP := hpd9.1
  have hD := hpd9.2
  clear hpd9
  generalize H1 = H at hP hS ⊢
  clear hPc hDc hFc hz1 hk1 hP1 hD1 ht hvm
  have hr_71 := hw_13
  refine va_put (D := (dC, dI)) (ci := 12) (v := Value.int x_13) (ty := .int) (C := RX12) (T := TX12) (N := 33) hx hb hts inX12 tyX12 tyX12_ok nmX12 hown hK hP hD hS 5 rfl rfl 7 (by decide) (hts _ (gw kw_724 rfl)) (fun _ h9 => h9) rfl (by decide +kernel) rfl rfl (Nat.le_of_ble_eq_true rfl) dX12_passesAll_74 (fun H locs hP hD hS => ?_)
  have hpd9 : PDx (dC, dI) classes A H [cI aC m_kind 9 u_3, cI aC m_figure 9 u_5, cI aC m_weight 9 u_7, cI aC m_got 8 u_9, cI aC m_setting 5 u_11, oX12 g0 m_refused m_kind m_figure m_weight m_got m_setting x_12 x_13 mdn m_tape m_letter m_letterAt m_told tp mat stm m_kept him 0 (nI ((50 * wh + 41) + 1)) m_price m_offer m_gets m_yes m_buys m_ends m_carried m_row rm m_keptRow m_likeGets m_likePrice m_ahead, cI aC m_kept 100 kp] := ⟨hP, hD⟩
  have hP := hpd9.1
  have hD := hpd9.2
  clear hpd9
  have hP : va_P (dC, dI) classes [cI aC m_kind 9 u_3, cI aC m_figure 9 u_5, cI aC m_weight 9 u_7, cI aC m_got 8 u_9, cI aC m_setting 5 u_11, oX12 g0 m_refused m_kind m_figure m_weight m_got m_setting x_12 x_13 mdn m_tape m_letter m_letterAt m_told tp mat stm m_kept him 0 (nI (50 * wh + 42)) m_price m_offer m_gets m_yes m_buys m_ends m_carried m_row rm m_keptRow m_likeGets m_likePrice m_ahead, cI aC m_kept 100 kp] H := hP
  have hD : va_D A [cI aC m_kind 9 u_3, cI aC m_figure 9 u_5, cI aC m_weight 9 u_7, cI aC m_got 8 u_9, cI aC m_setting 5 u_11, oX12 g0 m_refused m_kind m_figure m_weight m_got m_setting x_12 x_13 mdn m_tape m_letter m_letterAt m_told tp mat stm m_kept him 0 (nI (50 * wh + 42)) m_price m_offer m_gets m_yes m_buys m_ends m_carried m_row rm m_keptRow m_likeGets m_likePrice m_ahead, cI aC m_kept 100 kp] := hD
  refine lv_aload_n hx hb dX12_passesAll_77 rfl (lv_at hl 0 rfl) ?_
  refine lv_aload_n hx hb dX12_passesAll_78 rfl (lv_at hl 0 rfl) ?_
  refine lv_aload_n hx hb dX12_passesAll_79 rfl (lv_at hl 0 rfl) ?_
  refine va_get (D := (dC, dI)) (ci := 12) (v := Value.int mdn) (C := RX12) (T := TX12) (N := 33) hx hb hts inX12 hown hK hP 5 rfl rfl 8 (by decide) (hts _ (gw kw_725 rfl)) (fun _ h9 => h9) rfl dX12_passesAll_80 ?_
  have hpd9 := pdf_N (cx := [oX12 g0 m_refused m_kind m_figure m_weight m_got m_setting x_12 x_13 mdn m_tape m_letter m_letterAt m_told tp mat stm m_kept him 0 (nI (50 * wh + 42)) m_price m_offer m_gets m_yes m_buys m_ends m_carried m_row rm m_keptRow m_likeGets m_likePrice m_ahead, cI aC m_kept 100 kp]) hP hD hS hA [5, 6] (by decide) rfl
  have hPc := hpd9.1
  have hDc := hpd9.2.1
  have hFc := hpd9.2.2
  clear hpd9
  refine va_calli (va_runV (As := [Value.int mdn]) (rest := [Value.ref g0]) ⟨hx, hb, hml, hown, hts⟩ (c_X12_passOne_l l dC dI aC H.size g0 m_refused m_kind m_figure m_weight m_got m_setting m_tape m_letter m_letterAt m_told m_kept m_price m_offer m_gets m_yes m_buys m_ends m_carried m_row m_keptRow m_likeGets m_likePrice m_ahead x_12 x_13 mdn tp mat stm him rm mdn (50 * wh + 42) kp (by omega)) ⟨(callB_of 1 hts (gG kw_858) rfl rfl rfl (hts _ (gw kw_13 rfl)) (hts _ (gw kw_855 rfl)) hd_X12_passOne ⟨Nat.le_of_ble_eq_true rfl, Nat.le_of_ble_eq_true rfl⟩), (hts _ (gw kw_857 rfl)), (hts _ (gw ks_41 rfl))⟩ ⟨fb_std, va_recv (q := (RX12, TX12, 33)) hK hPc (ci := 12) (q0 := 0) rfl rfl, pre_std hPc hK hDc hN⟩ rfl rfl hl.1 rfl (lv_room (Nat.le_of_ble_eq_true rfl)) dX12_passesAll_83 ⟨Nat.le_of_ble_eq_true rfl, Nat.le_of_ble_eq_true rfl⟩) hS (fun q _ h => hFc q h) hFc (fun x_14 u9 t9 H1 locs ht hvm hw_14 hB hz1 hk1 hS => ?_)
  obtain ⟨hP1, hK1, hD1⟩ := hB
  rw [ht] at hP1
  clear hK1
  try dsimp only at hw_14
  have hpd9 : PDx (dC, dI) classes A H1 [cI aC m_kind 9 u_3, cI aC m_figure 9 u_5, cI aC m_weight 9 u_7, cI aC m_got 8 u_9, cI aC m_setting 5 u_11, oX12 g0 m_refused m_kind m_figure m_weight m_got m_setting x_12 x_13 mdn m_tape m_letter m_letterAt m_told tp mat stm m_kept him 0 (nI ((50 * wh + 42) + 1)) m_price m_offer m_gets m_yes m_buys m_ends m_carried m_row rm m_keptRow m_likeGets m_likePrice m_ahead, cI aC m_kept 100 kp] := jn_N (wr := [cI aC m_kind 9 u_3, cI aC m_figure 9 u_5, cI aC m_weight 9 u_7, cI aC m_got 8 u_9, cI aC m_setting 5 u_11]) hFc hk1 hP1 hD1 hP hD [5, 6] [0, 1, 2, 3, 4] rfl rfl (by decide) (by decide)
  have hP := hpd9.1
  have hD := hpd9.2
  clear hpd9
  generalize H1 = H at hP hS ⊢
  clear hPc hDc hFc hz1 hk1 hP1 hD1 ht hvm
  have hr_83 := hw_14
  refine va_put (D := (dC, dI)) (ci := 12) (v := Value.int x_14) (ty := .int) (C := RX12) (T := TX12) (N := 33) hx hb hts inX12 tyX12 tyX12_ok nmX12 hown hK hP hD hS 5 rfl rfl 8 (by decide) (hts _ (gw kw_725 rfl)) (fun _ h9 => h9) rfl (by decide +kernel) rfl rfl (Nat.le_of_ble_eq_true rfl) dX12_passesAll_86 (fun H locs hP hD hS => ?_)
  have hpd9 : PDx (dC, dI) classes A H [cI aC m_kind 9 u_3, cI aC m_figure 9 u_5, cI aC m_weight 9 u_7, cI aC m_got 8 u_9, cI aC m_setting 5 u_11, oX12 g0 m_refused m_kind m_figure m_weight m_got m_setting x_12 x_13 x_14 m_tape m_letter m_letterAt m_told tp mat stm m_kept him 0 (nI ((50 * wh + 42) + 1)) m_price m_offer m_gets m_yes m_buys m_ends m_carried m_row rm m_keptRow m_likeGets m_likePrice m_ahead, cI aC m_kept 100 kp] := ⟨hP, hD⟩
  have hP := hpd9.1
  have hD := hpd9.2
  clear hpd9
  have hpd9 := pd_N (cx := [oX12 g0 m_refused m_kind m_figure m_weight m_got m_setting x_12 x_13 x_14 m_tape m_letter m_letterAt m_told tp mat stm m_kept him 0 (nI ((50 * wh + 42) + 1)) m_price m_offer m_gets m_yes m_buys m_ends m_carried m_row rm m_keptRow m_likeGets m_likePrice m_ahead, cI aC m_kept 100 kp, cI aC m_kind 9 u_3, cI aC m_figure 9 u_5, cI aC m_weight 9 u_7, cI aC m_got 8 u_9, cI aC m_setting 5 u_11]) hP hD [5, 6, 0, 1, 2, 3, 4] (by decide) rfl
  have hP9 := hpd9.1
  have hD9 := hpd9.2
  refine W.widen (k := 0) (n := 0) (by omega) (by omega) ?_
  exact W.vret hx hb hr (fun t ht hW => ⟨⟨((nI ((50 * wh + 42) + 1)), x_12, x_13, x_14, u_3, u_5, u_7, u_9, u_11), rfl, ⟨fun j hj => (hq_18 j hj).symm, fun j hj => (hq_26 j hj).symm, fun j hj => (hq_34 j hj).symm, fun j hj => (hq_42 j hj).symm, fun j hj => (hq_50 j hj).symm, hr_59.symm, hr_71.symm, hr_83.symm⟩, by rw [ht]; exact hP9, va_K.moved hW.alike hK, hD9⟩, hS.F ht⟩) hS.2.2 dX12_passesAll_89
