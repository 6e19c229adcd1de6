section
/-! 71.shaken -/
theorem lc_ne {x y : Int64} (h : ¬ lg_cmp x y = 0) : ¬ x = y := fun e => h (by
  subst e
  unfold lg_cmp
  rw [if_neg (fun q => Int64.lt_irrefl q), if_pos rfl])
theorem lc_gt {x : Int64} (h : 0 < lg_cmp x 0) : ¬ x = 0 := fun e => by
  subst e
  exact absurd h (by decide)
theorem vL_us {f : Nat → Int64} {k : Nat} {x : Int64} : vp_updL f k x k = x := if_pos rfl
theorem vL_un {f : Nat → Int64} {k j : Nat} {x : Int64} (h : ¬ j = k) : vp_updL f k x j = f j := if_neg h
theorem w_ix {x : Int32} {w : Nat} (hw : w ≤ 9) (hx : x = nI w) : vp_in x 73 := by rw [hx]; exact vp_in_nI (by omega) (by omega)

set_option maxHeartbeats 1000000 in
set_option maxRecDepth 100000 in
/-- J7_fill_d0a16 -/
theorem c_J7_fill_d0a16 (l : Launch) (dC : Nat → ClassId) (dI : Nat → Nat → Nat) (aC : Nat → ClassId) (sz : Nat) (oa : Nat) (nA : Nat) (f : Nat → Int64) (v : Int64) (hn : nA < 2 ^ 31) : Met l yJ7_fill_d0a16 (wW yJ7_fill_d0a16 cJ7_fill_d0a16 5 (none : Option FieldType)) ({ frames := 0, cells := 0, slots := 0, locals := 0 } : Room) (va_Pc [Value.ref oa, Value.long v] (fun U => U.heap.size = sz ∧ va_P (dC, dI) classes [cL aC oa nA f] U.heap ∧ va_K (dC, dI) classes (TY aC) U ∧ va_D (fun _ => True) [cL aC oa nA f] ∧ NX U)) (va_Qv (fun (f2 : Nat → Int64) => ∀ q, q < nA → f2 q = v) (fun (f2 : Nat → Int64) (t : State) => va_P (dC, dI) classes [cL aC oa nA f2] t.heap ∧ va_K (dC, dI) classes (TY aC) t ∧ va_D (va_A [cL aC oa nA f] sz) [cL aC oa nA f2]) (va_A [cL aC oa nA f] sz)) 0 0 (va_A [cL aC oa nA f] sz) := by
  refine Met.ofW (cc := cJ7_fill_d0a16) (maxL := 5) (ret := (none : Option FieldType)) (by decide) rfl ?_
  intro p e s m args below meth c s₁ B hml hv
  obtain ⟨rfl, hsz, hP, hK, hD0, hN⟩ := hv
  have hx := B.exec
  have hb := B.bytes
  have hr := B.returns
  have hts0 := atoms_spec (ws := (wW yJ7_fill_d0a16 cJ7_fill_d0a16 5 (none : Option FieldType))) B.pre
  have hts : ∀ w9 ∈ lw_G, w9.before ([Value.ref oa, Value.long v] : List Value).toArray s = true := fun w9 h9 => hts0 w9 (List.mem_cons_of_mem _ h9)
  have hown : s.vm.findClass RJ7 = some m.cls := findClass_of_methodNamed (x := yJ7_fill_d0a16) B.named
  have hlocks := B.notSynchronized
  subst hsz
  have hD := hD0.self (sz := s.heap.size)
  generalize hAe : va_A [cL aC oa nA f] s.heap.size = A at hD ⊢
  have hA : ∀ q : Nat, s.heap.size ≤ q → A q := fun q h => by rw [← hAe]; exact Or.inr h
  obtain ⟨H, hHe⟩ : ∃ H : Heap, H = s.heap := ⟨_, rfl⟩
  have hS : va_S A s.heap H [] := by rw [hHe]; exact va_S.rf
  have hP : va_P (dC, dI) classes [cL aC oa nA f] H := by rw [hHe]; exact hP
  have hl := lv_entry ([Value.ref oa, Value.long v]) (n := 5) (Nat.le_of_ble_eq_true rfl)
  rw [lg_entry_eq]
  generalize (lg_sl ([Value.ref oa, Value.long v]) ++ List.replicate (5 - (lg_sl ([Value.ref oa, Value.long v])).length) Slot.unset).toArray = ls at hl ⊢
  have hl : lv_has ls 5 [(0, Value.ref oa), (1, Value.long v)] := hl
  rw [← hHe]
  refine lv_iconst (v := 0) hx hb dJ7_fill_d0a16_0 (by decide) ?_
  refine lv_istore_n (lv' := [(3, Value.int 0), (0, Value.ref oa), (1, Value.long v)]) hx hb dJ7_fill_d0a16_1 rfl hl (by decide) rfl (fun ls hl => ?_)
  refine lv_aload_n hx hb dJ7_fill_d0a16_2 rfl (lv_at hl 1 rfl) ?_
  refine va_alen (v := Int32.ofNat nA) hx hb hK hP 0 2 rfl rfl rfl dJ7_fill_d0a16_3 ?_
  refine lv_topi (fun x_1 e_1 => ?_)
  have h9 : x_1 = nI nA := e_1
  subst h9
  refine lv_istore (lv' := [(4, Value.int (nI nA)), (3, Value.int 0), (0, Value.ref oa), (1, Value.long v)]) hx hb dJ7_fill_d0a16_4 hl (by decide) rfl (fun ls hl => ?_)
  have lp_6 : ∀ (fu : Nat) (k : Nat) (fc : Nat → Int64) (hfu : nA - k < fu) (hk : k ≤ nA) (hfc : ∀ q, q < k → fc q = v) (H : Heap) (locs : List Loc) (ls : Array Slot), va_P (dC, dI) classes [cL aC oa nA fc] H → va_D A [cL aC oa nA fc] → va_S A s.heap H locs → lv_has ls 5 [(0, Value.ref oa), (1, Value.long v), (3, Value.int (nI k)), (4, Value.int (nI nA))] → W p l e (headSpec (wW yJ7_fill_d0a16 cJ7_fill_d0a16 5 (none : Option FieldType)) ({ frames := 0, cells := 0, slots := 0, locals := 0 } : Room)).room s m ([Value.ref oa, Value.long v] : List Value).toArray below meth c H locs 0 0 (MQ below (va_Qv (fun (f2 : Nat → Int64) => ∀ q, q < nA → f2 q = v) (fun (f2 : Nat → Int64) (t : State) => va_P (dC, dI) classes [cL aC oa nA f2] t.heap ∧ va_K (dC, dI) classes (TY aC) t ∧ va_D A [cL aC oa nA f2]) A) ([Value.ref oa, Value.long v] : List Value).toArray s 0 0 A) (F0 m 6 ls []) := by
    intro fu
    induction fu with
    | zero => intro k fc hfu; exact absurd hfu (Nat.not_lt_zero _)
    | succ fu ih_6 =>
      intro k fc hfu hk hfc H locs ls hP hD hS hl
      refine lv_iload_n hx hb dJ7_fill_d0a16_6 rfl (lv_at hl 2 rfl) ?_
      refine lv_iload hx hb dJ7_fill_d0a16_7 (lv_at hl 3 rfl) ?_
      refine lv_icmp_ge (tgt := 22) hx hb dJ7_fill_d0a16_9 (by decide) (fun c_2 => ?_) (fun c_2 => ?_)
      · have hkn : nA ≤ k := by
          rcases Nat.lt_or_ge k nA with q | q
          · exact absurd c_2 (nI_ge q (by omega))
          · exact q
        have hpd9 := pd_N (cx := [cL aC oa nA fc]) hP hD [0] (by decide) rfl
        have hP9 := hpd9.1
        have hD9 := hpd9.2
        refine W.widen (k := 0) (n := 0) (by omega) (by omega) ?_
        exact W.vret hx hb hr (fun t ht hW => ⟨⟨(fc), rfl, fun q hq => hfc q (by omega), by rw [ht]; exact hP9, va_K.moved hW.alike hK, hD9⟩, hS.F ht⟩) hS.2.2 dJ7_fill_d0a16_22
      · have hlt : k < nA := by
          rcases Nat.lt_or_ge k nA with q | q
          · exact q
          · exact absurd (nI_le q (by omega)) c_2
        refine lv_aload_n hx hb dJ7_fill_d0a16_12 rfl (lv_at hl 0 rfl) ?_
        refine lv_iload_n hx hb dJ7_fill_d0a16_13 rfl (lv_at hl 2 rfl) ?_
        refine lv_lload_n hx hb dJ7_fill_d0a16_14 rfl (lv_at hl 1 rfl) ?_
        have h_3 : vp_in (nI k) nA := vp_in_nI (by omega) (by omega)
        refine va_last hx hb hK hP hD hS 0 2 rfl rfl h_3 dJ7_fill_d0a16_15 (fun H locs hP hD hS => ?_)
        obtain ⟨f_4, e_f_4⟩ : ∃ y : Nat → Int64, y = vp_updL fc (nI k : Int32).toNatClampNeg v := ⟨_, rfl⟩
        have hpd9 : PDx (dC, dI) classes A H [cL aC oa nA f_4] := by rw [e_f_4]; exact ⟨hP, hD⟩
        have hP := hpd9.1
        have hD := hpd9.2
        clear hpd9
        obtain ⟨x_5, e_5⟩ : ∃ y : Int32, y = (nI k) + 1 := ⟨_, rfl⟩
        refine lv_iinc (v := x_5) (lv' := [(3, Value.int x_5), (0, Value.ref oa), (1, Value.long v), (4, Value.int (nI nA))]) hx hb dJ7_fill_d0a16_16 hl (k := 2) rfl (by rw [e_5]; rfl) (by decide) rfl (fun ls hl => ?_)
        have h9 : x_5 = nI (k + 1) := by rw [e_5, nI_1]
        subst h9
        refine lv_goto (tgt := 6) hx hb dJ7_fill_d0a16_19 (by decide) ?_
        exact ih_6 (k + 1) f_4 (by omega) (by omega) (fun q hq => by rw [e_f_4, nI_clamp (by omega)]; by_cases e : q = k <;> first | (rw [e]; exact vL_us) | (rw [vL_un e]; exact hfc q (by omega))) _ _ _ (hP.sub [0] rfl) (hD.sub [0] (by decide) rfl) hS (lv_sub hl [1, 2, 0, 3] rfl)
  exact lp_6 ((nA - 0) + 1) 0 f (Nat.lt_succ_self _) (by omega) (fun q hq => absurd hq (Nat.not_lt_zero q)) _ _ _ (hP.sub [0] rfl) (hD.sub [0] (by decide) rfl) hS (lv_sub hl [2, 3, 1, 0] rfl)

set_option maxHeartbeats 1000000 in
set_option maxRecDepth 100000 in
/-- X11_addVoter -/
theorem c_X11_addVoter (l : Launch) (dC : Nat → ClassId) (dI : Nat → Nat → Nat) (aC : Nat → ClassId) (sz : Nat) (h0 : Nat) (xp : Nat) (xtp : Nat) (xn : Nat) (xt : Nat) (xk : Nat) (xl : Nat) (xc : Nat) (xo : Nat) (xto : Nat) (xr : Nat) (xch : Nat) (ts : Int32) (ik : Int32) (st : Int32) (chf : Nat → Int64) (w0 : Nat) (y9 : Nat) (Dp : Nat → Nat) (hw0 : w0 ≤ 9) (hy9 : y9 ≤ 100) (hch : ∀ w, w < 73 → chf w = lI (Dp w)) : Met l yX11_addVoter (wW yX11_addVoter cX11_addVoter 6 (none : Option FieldType)) ({ frames := 0, cells := 0, slots := 0, locals := 0 } : Room) (va_Pc [Value.ref h0, Value.int (nI w0), Value.int (nI y9)] (fun U => U.heap.size = sz ∧ va_P (dC, dI) classes [oX11 h0 xp xtp xn xt xk xl xc xo xto xr xch ts ik st, cL aC xch 73 chf] U.heap ∧ va_K (dC, dI) classes (TY aC) U ∧ va_D (fun _ => True) [oX11 h0 xp xtp xn xt xk xl xc xo xto xr xch ts ik st, cL aC xch 73 chf] ∧ NX U)) (va_Qv (fun (chg : Nat → Int64) => ∀ w, w < 73 → chg w = lI (AV Dp w0 y9 w)) (fun (chg : Nat → Int64) (t : State) => va_P (dC, dI) classes [oX11 h0 xp xtp xn xt xk xl xc xo xto xr xch ts ik st, cL aC xch 73 chg] t.heap ∧ va_K (dC, dI) classes (TY aC) t ∧ va_D (va_A [oX11 h0 xp xtp xn xt xk xl xc xo xto xr xch ts ik st, cL aC xch 73 chf] sz) [oX11 h0 xp xtp xn xt xk xl xc xo xto xr xch ts ik st, cL aC xch 73 chg]) (va_A [oX11 h0 xp xtp xn xt xk xl xc xo xto xr xch ts ik st, cL aC xch 73 chf] sz)) 0 0 (va_A [oX11 h0 xp xtp xn xt xk xl xc xo xto xr xch ts ik st, cL aC xch 73 chf] sz) := by
  refine Met.ofW (cc := cX11_addVoter) (maxL := 6) (ret := (none : Option FieldType)) (by decide) rfl ?_
  intro p e s m args below meth c s₁ B hml hv
  obtain ⟨rfl, hsz, hP, hK, hD0, hN⟩ := hv
  have hx := B.exec
  have hb := B.bytes
  have hr := B.returns
  have hts0 := atoms_spec (ws := (wW yX11_addVoter cX11_addVoter 6 (none : Option FieldType))) B.pre
  have hts : ∀ w9 ∈ lw_G, w9.before ([Value.ref h0, Value.int (nI w0), Value.int (nI y9)] : List Value).toArray s = true := fun w9 h9 => hts0 w9 (List.mem_cons_of_mem _ h9)
  have hown : s.vm.findClass RX11 = some m.cls := findClass_of_methodNamed (x := yX11_addVoter) B.named
  have hlocks := B.notSynchronized
  subst hsz
  have hD := hD0.self (sz := s.heap.size)
  generalize hAe : va_A [oX11 h0 xp xtp xn xt xk xl xc xo xto xr xch ts ik st, cL aC xch 73 chf] s.heap.size = A at hD ⊢
  have hA : ∀ q : Nat, s.heap.size ≤ q → A q := fun q h => by rw [← hAe]; exact Or.inr h
  obtain ⟨H, hHe⟩ : ∃ H : Heap, H = s.heap := ⟨_, rfl⟩
  have hS : va_S A s.heap H [] := by rw [hHe]; exact va_S.rf
  have hP : va_P (dC, dI) classes [oX11 h0 xp xtp xn xt xk xl xc xo xto xr xch ts ik st, cL aC xch 73 chf] H := by rw [hHe]; exact hP
  have hl := lv_entry ([Value.ref h0, Value.int (nI w0), Value.int (nI y9)]) (n := 6) (Nat.le_of_ble_eq_true rfl)
  rw [lg_entry_eq]
  generalize (lg_sl ([Value.ref h0, Value.int (nI w0), Value.int (nI y9)]) ++ List.replicate (6 - (lg_sl ([Value.ref h0, Value.int (nI w0), Value.int (nI y9)])).length) Slot.unset).toArray = ls at hl ⊢
  have hl : lv_has ls 6 [(0, Value.ref h0), (1, Value.int (nI w0)), (2, Value.int (nI y9))] := hl
  rw [← hHe]
  refine lv_aload_n hx hb dX11_addVoter_0 rfl (lv_at hl 0 rfl) ?_
  refine va_get (D := (dC, dI)) (ci := 11) (v := Value.ref xch) (C := RX11) (T := TX11) (N := 14) hx hb hts inX11 hown hK hP 0 rfl rfl 10 (by decide) (hts _ (gw kw_236 rfl)) (fun _ h9 => h9) rfl dX11_addVoter_1 ?_
  refine va_alen (v := 73) hx hb hK hP 1 2 rfl rfl rfl dX11_addVoter_4 ?_
  refine lv_iconst (v := 1) hx hb dX11_addVoter_5 (by decide) ?_
  refine lv_isub hx hb dX11_addVoter_6 ?_
  refine lv_topi (fun x_1 e_1 => ?_)
  refine lv_istore_n (lv' := [(3, Value.int x_1), (0, Value.ref h0), (1, Value.int (nI w0)), (2, Value.int (nI y9))]) hx hb dX11_addVoter_7 rfl hl (by decide) rfl (fun ls hl => ?_)
  have lp_8 : ∀ (fu : Nat) (kk : Nat) (x3 : Int32) (cc : Nat → Int64) (hfu : kk < fu) (hk : kk ≤ 73) (hx3 : x3 = iI ((kk : Int) - 1)) (hcc : ∀ w, w < 73 → cc w = lI (if kk ≤ w then AV Dp w0 y9 w else Dp w)) (H : Heap) (locs : List Loc) (ls : Array Slot), va_P (dC, dI) classes [oX11 h0 xp xtp xn xt xk xl xc xo xto xr xch ts ik st, cL aC xch 73 cc] H → va_D A [oX11 h0 xp xtp xn xt xk xl xc xo xto xr xch ts ik st, cL aC xch 73 cc] → va_S A s.heap H locs → lv_has ls 6 [(0, Value.ref h0), (1, Value.int (nI w0)), (2, Value.int (nI y9)), (3, Value.int x3)] → W p l e (headSpec (wW yX11_addVoter cX11_addVoter 6 (none : Option FieldType)) ({ frames := 0, cells := 0, slots := 0, locals := 0 } : Room)).room s m ([Value.ref h0, Value.int (nI w0), Value.int (nI y9)] : List Value).toArray below meth c H locs 0 0 (MQ below (va_Qv (fun (chg : Nat → Int64) => ∀ w, w < 73 → chg w = lI (AV Dp w0 y9 w)) (fun (chg : Nat → Int64) (t : State) => va_P (dC, dI) classes [oX11 h0 xp xtp xn xt xk xl xc xo xto xr xch ts ik st, cL aC xch 73 chg] t.heap ∧ va_K (dC, dI) classes (TY aC) t ∧ va_D A [oX11 h0 xp xtp xn xt xk xl xc xo xto xr xch ts ik st, cL aC xch 73 chg]) A) ([Value.ref h0, Value.int (nI w0), Value.int (nI y9)] : List Value).toArray s 0 0 A) (F0 m 8 ls []) := by
    intro fu
    induction fu with
    | zero => intro kk x3 cc hfu; exact absurd hfu (Nat.not_lt_zero _)
    | succ fu ih_8 =>
      intro kk x3 cc hfu hk hx3 hcc H locs ls hP hD hS hl
      refine lv_iload_n hx hb dX11_addVoter_8 rfl (lv_at hl 3 rfl) ?_
      refine lv_if_lt (tgt := 61) hx hb dX11_addVoter_9 (by decide) (fun c_2 => ?_) (fun c_2 => ?_)
      · have hk0 : kk = 0 := by
          have h9 := c_2
          rw [hx3, ← iI_0, iI_lt (by unfold sm; omega) sm0] at h9
          omega
        have hpd9 := pd_N (cx := [oX11 h0 xp xtp xn xt xk xl xc xo xto xr xch ts ik st, cL aC xch 73 cc]) hP hD [0, 1] (by decide) rfl
        have hP9 := hpd9.1
        have hD9 := hpd9.2
        refine W.widen (k := 0) (n := 0) (by omega) (by omega) ?_
        exact W.vret hx hb hr (fun t ht hW => ⟨⟨(cc), rfl, fun w hw => by rw [hcc w hw, hk0, if_pos (Nat.zero_le w)], by rw [ht]; exact hP9, va_K.moved hW.alike hK, hD9⟩, hS.F ht⟩) hS.2.2 dX11_addVoter_61
      · have hk1 : 1 ≤ kk := by
          rcases Nat.eq_zero_or_pos kk with q | q
          · subst q; exact absurd (by rw [hx3]; decide) c_2
          · exact q
        obtain ⟨k, hkk⟩ : ∃ k, kk = k + 1 := ⟨kk - 1, by omega⟩
        subst hkk
        have h9 : x3 = nI k := by rw [hx3, nI_iI]; congr 1; omega
        subst h9
        refine lv_iload_n hx hb dX11_addVoter_12 rfl (lv_at hl 3 rfl) ?_
        refine lv_iload_n hx hb dX11_addVoter_13 rfl (lv_at hl 1 rfl) ?_
        refine lv_icmp_lt (tgt := 28) hx hb dX11_addVoter_14 (by decide) (fun c_3 => ?_) (fun c_3 => ?_)
        · refine lv_lconst (v := 0) hx hb dX11_addVoter_28 (by decide) ?_
          have hwk : ¬ w0 ≤ k := by have := (nI_ltI (by omega) (by omega)).mp c_3; omega
          refine lv_lstore (lv' := [(4, Value.long 0), (0, Value.ref h0), (1, Value.int (nI w0)), (2, Value.int (nI y9)), (3, Value.int (nI k))]) hx hb dX11_addVoter_29 hl (by decide) rfl (fun ls hl => ?_)
          refine lv_aload_n hx hb dX11_addVoter_31 rfl (lv_at hl 1 rfl) ?_
          refine va_get (D := (dC, dI)) (ci := 11) (v := Value.ref xch) (C := RX11) (T := TX11) (N := 14) hx hb hts inX11 hown hK hP 0 rfl rfl 10 (by decide) (hts _ (gw kw_236 rfl)) (fun _ h9 => h9) rfl dX11_addVoter_32 ?_
          refine lv_iload_n hx hb dX11_addVoter_35 rfl (lv_at hl 4 rfl) ?_
          refine lv_aload_n hx hb dX11_addVoter_36 rfl (lv_at hl 1 rfl) ?_
          refine va_get (D := (dC, dI)) (ci := 11) (v := Value.ref xch) (C := RX11) (T := TX11) (N := 14) hx hb hts inX11 hown hK hP 0 rfl rfl 10 (by decide) (hts _ (gw kw_236 rfl)) (fun _ h9 => h9) rfl dX11_addVoter_37 ?_
          refine lv_iload_n hx hb dX11_addVoter_40 rfl (lv_at hl 4 rfl) ?_
          have h_4 : vp_in (nI k) 73 := vp_in_nI (by omega) (by omega)
          refine va_lald hx hb hK hP 1 2 rfl rfl h_4 dX11_addVoter_41 ?_
          refine lv_topl (fun x_5 e_5 => ?_)
          have h9 : x_5 = lI (Dp k) := by rw [e_5, nI_clamp (by omega), hcc k (by omega), if_neg (by omega)]
          subst h9
          refine lv_bipush (v := 100) hx hb dX11_addVoter_42 (by decide) ?_
          refine lv_iload_n hx hb dX11_addVoter_44 rfl (lv_at hl 3 rfl) ?_
          refine lv_isub hx hb dX11_addVoter_45 ?_
          refine lv_topi (fun x_6 e_6 => ?_)
          have h9 : x_6 = nI (100 - y9) := by rw [e_6]; exact pk_sub (a := 100) hy9
          subst h9
          refine lv_i2l hx hb dX11_addVoter_46 rfl ?_
          refine lv_topl (fun x_7 e_7 => ?_)
          have h9 : x_7 = lI (100 - y9) := by rw [e_7]; exact lI_i (by omega)
          subst h9
          refine lv_lmul hx hb dX11_addVoter_47 ?_
          refine lv_topl (fun x_8 e_8 => ?_)
          have h9 : x_8 = lI (Dp k * (100 - y9)) := by rw [e_8, lI_mul]
          subst h9
          refine lv_lload hx hb dX11_addVoter_48 (lv_at hl 0 rfl) ?_
          refine lv_iload_n hx hb dX11_addVoter_50 rfl (lv_at hl 3 rfl) ?_
          refine lv_i2l hx hb dX11_addVoter_51 rfl ?_
          refine lv_topl (fun x_9 e_9 => ?_)
          have h9 : x_9 = lI y9 := by rw [e_9]; exact lI_i (by omega)
          subst h9
          refine lv_lmul hx hb dX11_addVoter_52 ?_
          refine lv_topl (fun x_10 e_10 => ?_)
          have h9 : x_10 = lI (0 * y9) := by rw [e_10, show (0 : Int64) = lI 0 from rfl, lI_mul]
          subst h9
          refine lv_ladd hx hb dX11_addVoter_53 ?_
          refine lv_topl (fun x_11 e_11 => ?_)
          have h9 : x_11 = lI (AV Dp w0 y9 k) := by rw [e_11, lI_add]; unfold AV; rw [if_neg hwk]
          subst h9
          have h_12 : vp_in (nI k) 73 := vp_in_nI (by omega) (by omega)
          refine va_last hx hb hK hP hD hS 1 2 rfl rfl h_12 dX11_addVoter_54 (fun H locs hP hD hS => ?_)
          obtain ⟨f_13, e_f_13⟩ : ∃ y : Nat → Int64, y = vp_updL cc (nI k : Int32).toNatClampNeg (lI (AV Dp w0 y9 k)) := ⟨_, rfl⟩
          have hpd9 : PDx (dC, dI) classes A H [oX11 h0 xp xtp xn xt xk xl xc xo xto xr xch ts ik st, cL aC xch 73 f_13] := by rw [e_f_13]; exact ⟨hP, hD⟩
          have hP := hpd9.1
          have hD := hpd9.2
          clear hpd9
          have hc3 : ∀ w, w < 73 → f_13 w = lI (if k ≤ w then AV Dp w0 y9 w else Dp w) := fun w hw => by
            rw [e_f_13, nI_clamp (by omega)]
            by_cases e : w = k
            · rw [e, vL_us, if_pos (Nat.le_refl k)]
            · rw [vL_un e, hcc w hw]
              congr 1
              by_cases e2 : k ≤ w
              · rw [if_pos e2, if_pos (by omega)]
              · rw [if_neg e2, if_neg (by omega)]
          obtain ⟨x_14, e_14⟩ : ∃ y : Int32, y = (nI k) + (-1) := ⟨_, rfl⟩
          refine lv_iinc (v := x_14) (lv' := [(3, Value.int x_14), (4, Value.long 0), (0, Value.ref h0), (1, Value.int (nI w0)), (2, Value.int (nI y9))]) hx hb dX11_addVoter_55 hl (k := 4) rfl (by rw [e_14]; rfl) (by decide) rfl (fun ls hl => ?_)
          refine lv_goto (tgt := 8) hx hb dX11_addVoter_58 (by decide) ?_
          exact ih_8 k x_14 f_13 (by omega) (by omega) (by rw [e_14, nI_iI, show (-1 : Int32) = iI (-1) from rfl, iI_add]; rfl) (hc3) _ _ _ (hP.sub [0, 1] rfl) (hD.sub [0, 1] (by decide) rfl) hS (lv_sub hl [2, 3, 4, 0] rfl)
        · refine lv_aload_n hx hb dX11_addVoter_17 rfl (lv_at hl 0 rfl) ?_
          refine va_get (D := (dC, dI)) (ci := 11) (v := Value.ref xch) (C := RX11) (T := TX11) (N := 14) hx hb hts inX11 hown hK hP 0 rfl rfl 10 (by decide) (hts _ (gw kw_236 rfl)) (fun _ h9 => h9) rfl dX11_addVoter_18 ?_
          refine lv_iload_n hx hb dX11_addVoter_21 rfl (lv_at hl 3 rfl) ?_
          refine lv_iload_n hx hb dX11_addVoter_22 rfl (lv_at hl 1 rfl) ?_
          refine lv_isub hx hb dX11_addVoter_23 ?_
          refine lv_topi (fun x_15 e_15 => ?_)
          have h9 : x_15 = nI (k - w0) := by rw [e_15]; exact pk_sub (Nat.le_of_not_lt fun q => c_3 (nI_lt q (by omega)))
          subst h9
          have h_16 : vp_in (nI (k - w0)) 73 := vp_in_nI (by omega) (by omega)
          refine va_lald hx hb hK hP 1 2 rfl rfl h_16 dX11_addVoter_24 ?_
          refine lv_topl (fun x_17 e_17 => ?_)
          have h9 : x_17 = lI (Dp (k - w0)) := by rw [e_17, nI_clamp (by omega), hcc (k - w0) (by omega), if_neg (by omega)]
          subst h9
          refine lv_goto (tgt := 29) hx hb dX11_addVoter_25 (by decide) ?_
          have hwk : w0 ≤ k := Nat.le_of_not_lt fun q => c_3 (nI_lt q (by omega))
          refine lv_lstore (lv' := [(4, Value.long (lI (Dp (k - w0)))), (0, Value.ref h0), (1, Value.int (nI w0)), (2, Value.int (nI y9)), (3, Value.int (nI k))]) hx hb dX11_addVoter_29 hl (by decide) rfl (fun ls hl => ?_)
          refine lv_aload_n hx hb dX11_addVoter_31 rfl (lv_at hl 1 rfl) ?_
          refine va_get (D := (dC, dI)) (ci := 11) (v := Value.ref xch) (C := RX11) (T := TX11) (N := 14) hx hb hts inX11 hown hK hP 0 rfl rfl 10 (by decide) (hts _ (gw kw_236 rfl)) (fun _ h9 => h9) rfl dX11_addVoter_32 ?_
          refine lv_iload_n hx hb dX11_addVoter_35 rfl (lv_at hl 4 rfl) ?_
          refine lv_aload_n hx hb dX11_addVoter_36 rfl (lv_at hl 1 rfl) ?_
          refine va_get (D := (dC, dI)) (ci := 11) (v := Value.ref xch) (C := RX11) (T := TX11) (N := 14) hx hb hts inX11 hown hK hP 0 rfl rfl 10 (by decide) (hts _ (gw kw_236 rfl)) (fun _ h9 => h9) rfl dX11_addVoter_37 ?_
          refine lv_iload_n hx hb dX11_addVoter_40 rfl (lv_at hl 4 rfl) ?_
          have h_18 : vp_in (nI k) 73 := vp_in_nI (by omega) (by omega)
          refine va_lald hx hb hK hP 1 2 rfl rfl h_18 dX11_addVoter_41 ?_
          refine lv_topl (fun x_19 e_19 => ?_)
          have h9 : x_19 = lI (Dp k) := by rw [e_19, nI_clamp (by omega), hcc k (by omega), if_neg (by omega)]
          subst h9
          refine lv_bipush (v := 100) hx hb dX11_addVoter_42 (by decide) ?_
          refine lv_iload_n hx hb dX11_addVoter_44 rfl (lv_at hl 3 rfl) ?_
          refine lv_isub hx hb dX11_addVoter_45 ?_
          refine lv_topi (fun x_20 e_20 => ?_)
          have h9 : x_20 = nI (100 - y9) := by rw [e_20]; exact pk_sub (a := 100) hy9
          subst h9
          refine lv_i2l hx hb dX11_addVoter_46 rfl ?_
          refine lv_topl (fun x_21 e_21 => ?_)
          have h9 : x_21 = lI (100 - y9) := by rw [e_21]; exact lI_i (by omega)
          subst h9
          refine lv_lmul hx hb dX11_addVoter_47 ?_
          refine lv_topl (fun x_22 e_22 => ?_)
          have h9 : x_22 = lI (Dp k * (100 - y9)) := by rw [e_22, lI_mul]
          subst h9
          refine lv_lload hx hb dX11_addVoter_48 (lv_at hl 0 rfl) ?_
          refine lv_iload_n hx hb dX11_addVoter_50 rfl (lv_at hl 3 rfl) ?_
          refine lv_i2l hx hb dX11_addVoter_51 rfl ?_
          refine lv_topl (fun x_23 e_23 => ?_)
          have h9 : x_23 = lI y9 := by rw [e_23]; exact lI_i (by omega)
          subst h9
          refine lv_lmul hx hb dX11_addVoter_52 ?_
          refine lv_topl (fun x_24 e_24 => ?_)
          have h9 : x_24 = lI (Dp (k - w0) * y9) := by rw [e_24, lI_mul]
          subst h9
          refine lv_ladd hx hb dX11_addVoter_53 ?_
          refine lv_topl (fun x_25 e_25 => ?_)
          have h9 : x_25 = lI (AV Dp w0 y9 k) := by rw [e_25, lI_add]; unfold AV; rw [if_pos hwk]
          subst h9
          have h_26 : vp_in (nI k) 73 := vp_in_nI (by omega) (by omega)
          refine va_last hx hb hK hP hD hS 1 2 rfl rfl h_26 dX11_addVoter_54 (fun H locs hP hD hS => ?_)
          obtain ⟨f_27, e_f_27⟩ : ∃ y : Nat → Int64, y = vp_updL cc (nI k : Int32).toNatClampNeg (lI (AV Dp w0 y9 k)) := ⟨_, rfl⟩
          have hpd9 : PDx (dC, dI) classes A H [oX11 h0 xp xtp xn xt xk xl xc xo xto xr xch ts ik st, cL aC xch 73 f_27] := by rw [e_f_27]; exact ⟨hP, hD⟩
          have hP := hpd9.1
          have hD := hpd9.2
          clear hpd9
          have hc3 : ∀ w, w < 73 → f_27 w = lI (if k ≤ w then AV Dp w0 y9 w else Dp w) := fun w hw => by
            rw [e_f_27, nI_clamp (by omega)]
            by_cases e : w = k
            · rw [e, vL_us, if_pos (Nat.le_refl k)]
            · rw [vL_un e, hcc w hw]
              congr 1
              by_cases e2 : k ≤ w
              · rw [if_pos e2, if_pos (by omega)]
              · rw [if_neg e2, if_neg (by omega)]
          obtain ⟨x_28, e_28⟩ : ∃ y : Int32, y = (nI k) + (-1) := ⟨_, rfl⟩
          refine lv_iinc (v := x_28) (lv' := [(3, Value.int x_28), (4, Value.long (lI (Dp (k - w0)))), (0, Value.ref h0), (1, Value.int (nI w0)), (2, Value.int (nI y9))]) hx hb dX11_addVoter_55 hl (k := 4) rfl (by rw [e_28]; rfl) (by decide) rfl (fun ls hl => ?_)
          refine lv_goto (tgt := 8) hx hb dX11_addVoter_58 (by decide) ?_
          exact ih_8 k x_28 f_27 (by omega) (by omega) (by rw [e_28, nI_iI, show (-1 : Int32) = iI (-1) from rfl, iI_add]; rfl) (hc3) _ _ _ (hP.sub [0, 1] rfl) (hD.sub [0, 1] (by decide) rfl) hS (lv_sub hl [2, 3, 4, 0] rfl)
  exact lp_8 (73 + 1) 73 x_1 chf (Nat.lt_succ_self _) (by omega) (by rw [e_1]; decide) (fun w hw => by rw [if_neg (by omega)]; exact hch w hw) _ _ _ (hP.sub [0, 1] rfl) (hD.sub [0, 1] (by decide) rfl) hS (lv_sub hl [1, 2, 3, 0] rfl)

set_option maxHeartbeats 1000000 in
set_option maxRecDepth 100000 in
/-- X11_shakeVotes -/
theorem c_X11_shakeVotes (l : Launch) (dC : Nat → ClassId) (dI : Nat → Nat → Nat) (aC : Nat → ClassId) (sz : Nat) (h0 : Nat) (xp : Nat) (xtp : Nat) (xn : Nat) (xt : Nat) (xk : Nat) (xl : Nat) (xc : Nat) (xo : Nat) (xto : Nat) (xr : Nat) (xch : Nat) (ts : Int32) (ik : Int32) (st : Int32) (ek : Nat) (ef : Nat) (ew : Nat) (ep : Nat) (es : Nat) (n : Nat) (sn : Nat) (dn : Int32) (kf : Nat → Int32) (ff : Nat → Int32) (wf : Nat → Int32) (stf : Nat → Int32) (K : Nat → Nat) (F : Nat → Nat) (W0 : Nat → Nat) (S5 : Nat → Nat) (chf : Nat → Int64) (y0 : Int32) (hev : EVS n sn dn K F W0 S5 kf ff wf stf) (hsn : sn < n) : Met l yX11_shakeVotes (wW yX11_shakeVotes cX11_shakeVotes 7 (some .long)) ({ frames := 1, cells := 0, slots := 0, locals := 25 } : Room) (va_Pc [Value.ref h0, Value.int y0] (fun U => U.heap.size = sz ∧ va_P (dC, dI) classes [oX11 h0 xp xtp xn xt xk xl xc xo xto xr xch ts ik st, oX4 xn ek ef ew ep es (nI n) (nI sn) dn, cI aC ew 8 wf, cI aC es 5 stf, cL aC xch 73 chf] U.heap ∧ va_K (dC, dI) classes (TY aC) U ∧ va_D (fun _ => True) [oX11 h0 xp xtp xn xt xk xl xc xo xto xr xch ts ik st, oX4 xn ek ef ew ep es (nI n) (nI sn) dn, cI aC ew 8 wf, cI aC es 5 stf, cL aC xch 73 chf] ∧ NX U)) (va_Ql (fun (r : Int64) (chg : Nat → Int64) => r = lI (100 ^ (n - 1 - sn)) ∧ ∀ w, w < 73 → chg w = lI (DC W0 y0 (S5 4) sn (n - 1 - sn) w)) (fun (chg : Nat → Int64) (t : State) => va_P (dC, dI) classes [oX11 h0 xp xtp xn xt xk xl xc xo xto xr xch ts ik st, oX4 xn ek ef ew ep es (nI n) (nI sn) dn, cI aC ew 8 wf, cI aC es 5 stf, cL aC xch 73 chg] t.heap ∧ va_K (dC, dI) classes (TY aC) t ∧ va_D (va_A [oX11 h0 xp xtp xn xt xk xl xc xo xto xr xch ts ik st, oX4 xn ek ef ew ep es (nI n) (nI sn) dn, cI aC ew 8 wf, cI aC es 5 stf, cL aC xch 73 chf] sz) [oX11 h0 xp xtp xn xt xk xl xc xo xto xr xch ts ik st, oX4 xn ek ef ew ep es (nI n) (nI sn) dn, cI aC ew 8 wf, cI aC es 5 stf, cL aC xch 73 chg]) (va_A [oX11 h0 xp xtp xn xt xk xl xc xo xto xr xch ts ik st, oX4 xn ek ef ew ep es (nI n) (nI sn) dn, cI aC ew 8 wf, cI aC es 5 stf, cL aC xch 73 chf] sz)) 0 0 (va_A [oX11 h0 xp xtp xn xt xk xl xc xo xto xr xch ts ik st, oX4 xn ek ef ew ep es (nI n) (nI sn) dn, cI aC ew 8 wf, cI aC es 5 stf, cL aC xch 73 chf] sz) := by
  refine Met.ofW (cc := cX11_shakeVotes) (maxL := 7) (ret := (some .long)) (by decide) rfl ?_
  intro p e s m args below meth c s₁ B hml hv
  obtain ⟨rfl, hsz, hP, hK, hD0, hN⟩ := hv
  have hx := B.exec
  have hb := B.bytes
  have hr := B.returns
  have hts0 := atoms_spec (ws := (wW yX11_shakeVotes cX11_shakeVotes 7 (some .long))) B.pre
  have hts : ∀ w9 ∈ lw_G, w9.before ([Value.ref h0, Value.int y0] : List Value).toArray s = true := fun w9 h9 => hts0 w9 (List.mem_cons_of_mem _ h9)
  have hown : s.vm.findClass RX11 = some m.cls := findClass_of_methodNamed (x := yX11_shakeVotes) B.named
  have hlocks := B.notSynchronized
  subst hsz
  have hD := hD0.self (sz := s.heap.size)
  generalize hAe : va_A [oX11 h0 xp xtp xn xt xk xl xc xo xto xr xch ts ik st, oX4 xn ek ef ew ep es (nI n) (nI sn) dn, cI aC ew 8 wf, cI aC es 5 stf, cL aC xch 73 chf] s.heap.size = A at hD ⊢
  have hA : ∀ q : Nat, s.heap.size ≤ q → A q := fun q h => by rw [← hAe]; exact Or.inr h
  obtain ⟨H, hHe⟩ : ∃ H : Heap, H = s.heap := ⟨_, rfl⟩
  have hS : va_S A s.heap H [] := by rw [hHe]; exact va_S.rf
  have hP : va_P (dC, dI) classes [oX11 h0 xp xtp xn xt xk xl xc xo xto xr xch ts ik st, oX4 xn ek ef ew ep es (nI n) (nI sn) dn, cI aC ew 8 wf, cI aC es 5 stf, cL aC xch 73 chf] H := by rw [hHe]; exact hP
  have hl := lv_entry ([Value.ref h0, Value.int y0]) (n := 7) (Nat.le_of_ble_eq_true rfl)
  rw [lg_entry_eq]
  generalize (lg_sl ([Value.ref h0, Value.int y0]) ++ List.replicate (7 - (lg_sl ([Value.ref h0, Value.int y0])).length) Slot.unset).toArray = ls at hl ⊢
  have hl : lv_has ls 7 [(0, Value.ref h0), (1, Value.int y0)] := hl
  rw [← hHe]
  have hn8 := EVS_n hev
  have hw := HW_of hev.1
  have hws := (hw.2 sn hsn).2
  have h54 := hev.2.2.1.2.2.2
  refine lv_aload_n hx hb dX11_shakeVotes_0 rfl (lv_at hl 0 rfl) ?_
  refine va_get (D := (dC, dI)) (ci := 11) (v := Value.ref xch) (C := RX11) (T := TX11) (N := 14) hx hb hts inX11 hown hK hP 0 rfl rfl 10 (by decide) (hts _ (gw kw_236 rfl)) (fun _ h9 => h9) rfl dX11_shakeVotes_1 ?_
  refine lv_lconst (v := 0) hx hb dX11_shakeVotes_4 (by decide) ?_
  have hpd9 := pdf_N (cx := [cL aC xch 73 chf]) hP hD hS hA [4] (by decide) rfl
  have hPc := hpd9.1
  have hDc := hpd9.2.1
  have hFc := hpd9.2.2
  clear hpd9
  refine va_callv (va_runS (As := [Value.ref xch, Value.long 0]) (rest := []) ⟨hx, hb, hml, hown, hts⟩ (c_J7_fill_d0a16 l dC dI aC H.size xch 73 chf 0 (by omega)) ⟨(callB_of 2 hts (gG kw_655) rfl rfl rfl (hts _ (gw kw_15 rfl)) (hts _ (gw kw_653 rfl)) hd_J7_fill_d0a16 ⟨Nat.le_of_ble_eq_true rfl, Nat.le_of_ble_eq_true rfl⟩), (hts _ (gw kw_654 rfl))⟩ ⟨fb_std, pre_std hPc hK hDc hN⟩ rfl rfl hl.1 rfl (lv_room (Nat.le_of_ble_eq_true rfl)) dX11_shakeVotes_5 ⟨Nat.le_of_ble_eq_true rfl, Nat.le_of_ble_eq_true rfl⟩) hS (fun q _ h => hFc q h) hFc (fun u9 t9 H1 locs ht hvm hw_1 hB hz1 hk1 hS => ?_)
  obtain ⟨u_2, rfl⟩ : ∃ z, z = u9 := ⟨_, rfl⟩
  obtain ⟨hP1, hK1, hD1⟩ := hB
  rw [ht] at hP1
  clear hK1
  try dsimp only at hw_1
  have hpd9 : PDx (dC, dI) classes A H1 [oX11 h0 xp xtp xn xt xk xl xc xo xto xr xch ts ik st, oX4 xn ek ef ew ep es (nI n) (nI sn) dn, cI aC ew 8 wf, cI aC es 5 stf, cL aC xch 73 u_2] := jn_N (wr := [oX11 h0 xp xtp xn xt xk xl xc xo xto xr xch ts ik st, oX4 xn ek ef ew ep es (nI n) (nI sn) dn, cI aC ew 8 wf, cI aC es 5 stf]) hFc hk1 hP1 hD1 hP hD [4] [0, 1, 2, 3] rfl rfl (by decide) (by decide)
  have hP := hpd9.1
  have hD := hpd9.2
  clear hpd9
  generalize H1 = H at hP hS ⊢
  clear hPc hDc hFc hz1 hk1 hP1 hD1 ht hvm
  have hfl := hw_1
  refine lv_aload_n hx hb dX11_shakeVotes_8 rfl (lv_at hl 0 rfl) ?_
  refine va_get (D := (dC, dI)) (ci := 11) (v := Value.ref xch) (C := RX11) (T := TX11) (N := 14) hx hb hts inX11 hown hK hP 0 rfl rfl 10 (by decide) (hts _ (gw kw_236 rfl)) (fun _ h9 => h9) rfl dX11_shakeVotes_9 ?_
  refine lv_aload_n hx hb dX11_shakeVotes_12 rfl (lv_at hl 0 rfl) ?_
  refine va_get (D := (dC, dI)) (ci := 11) (v := Value.ref xn) (C := RX11) (T := TX11) (N := 14) hx hb hts inX11 hown hK hP 0 rfl rfl 2 (by decide) (hts _ (gw kw_228 rfl)) (fun _ h9 => h9) rfl dX11_shakeVotes_13 ?_
  refine va_get (D := (dC, dI)) (ci := 4) (v := Value.ref ew) (C := RX4) (T := TX4) (N := 8) hx hb hts inX4 hown hK hP 1 rfl rfl 2 (by decide) (hts _ (gw kw_39 rfl)) (fun _ h9 => h9) rfl dX11_shakeVotes_16 ?_
  refine lv_aload_n hx hb dX11_shakeVotes_19 rfl (lv_at hl 0 rfl) ?_
  refine va_get (D := (dC, dI)) (ci := 11) (v := Value.ref xn) (C := RX11) (T := TX11) (N := 14) hx hb hts inX11 hown hK hP 0 rfl rfl 2 (by decide) (hts _ (gw kw_228 rfl)) (fun _ h9 => h9) rfl dX11_shakeVotes_20 ?_
  refine va_get (D := (dC, dI)) (ci := 4) (v := Value.int (nI sn)) (C := RX4) (T := TX4) (N := 8) hx hb hts inX4 hown hK hP 1 rfl rfl 6 (by decide) (hts _ (gw kw_52 rfl)) (fun _ h9 => h9) rfl dX11_shakeVotes_23 ?_
  have h_3 : vp_in (nI sn) 8 := by first | exact vp_in_nI (by omega) (by omega) | (unfold vp_in; decide) | (subst_vars; first | (unfold vp_in; decide) | exact vp_in_nI (by omega) (by omega))
  refine va_iald hx hb hK hP 2 0 rfl rfl h_3 dX11_shakeVotes_26 ?_
  refine lv_topi (fun x_4 e_4 => ?_)
  have h9 : x_4 = nI (W0 sn) := by rw [e_4, nI_clamp (by omega)]; exact (hw.2 sn hsn).1
  subst h9
  refine lv_lconst (v := 1) hx hb dX11_shakeVotes_27 (by decide) ?_
  have h_5 : vp_in (nI (W0 sn)) 73 := by have := (hw.2 sn hsn).2; exact vp_in_nI (by omega) (by omega)
  refine va_last hx hb hK hP hD hS 4 2 rfl rfl h_5 dX11_shakeVotes_28 (fun H locs hP hD hS => ?_)
  obtain ⟨f_6, e_f_6⟩ : ∃ y : Nat → Int64, y = vp_updL u_2 (nI (W0 sn) : Int32).toNatClampNeg 1 := ⟨_, rfl⟩
  have hpd9 : PDx (dC, dI) classes A H [oX11 h0 xp xtp xn xt xk xl xc xo xto xr xch ts ik st, oX4 xn ek ef ew ep es (nI n) (nI sn) dn, cI aC ew 8 wf, cI aC es 5 stf, cL aC xch 73 f_6] := by rw [e_f_6]; exact ⟨hP, hD⟩
  have hP := hpd9.1
  have hD := hpd9.2
  clear hpd9
  have hc0 : ∀ w, w < 73 → f_6 w = lI (DC W0 y0 (S5 4) sn 0 w) := fun w hw => by
    rw [e_f_6, nI_clamp (by omega)]
    show _ = lI (if w = W0 sn then 1 else 0)
    by_cases e : w = W0 sn
    · rw [e, vL_us, if_pos rfl]; rfl
    · rw [vL_un e, if_neg e]; exact hfl w hw
  refine lv_lconst (v := 1) hx hb dX11_shakeVotes_29 (by decide) ?_
  refine lv_topl (fun x_7 e_7 => ?_)
  have h9 : x_7 = lI (100 ^ (sn + 1 - (sn + 1))) := by rw [e_7, Nat.sub_self]; rfl
  subst h9
  refine lv_lstore_n (lv' := [(2, Value.long (lI (100 ^ (sn + 1 - (sn + 1))))), (0, Value.ref h0), (1, Value.int y0)]) hx hb dX11_shakeVotes_30 rfl hl (by decide) rfl (fun ls hl => ?_)
  refine lv_aload_n hx hb dX11_shakeVotes_31 rfl (lv_at hl 1 rfl) ?_
  refine va_get (D := (dC, dI)) (ci := 11) (v := Value.ref xn) (C := RX11) (T := TX11) (N := 14) hx hb hts inX11 hown hK hP 0 rfl rfl 2 (by decide) (hts _ (gw kw_228 rfl)) (fun _ h9 => h9) rfl dX11_shakeVotes_32 ?_
  refine va_get (D := (dC, dI)) (ci := 4) (v := Value.int (nI sn)) (C := RX4) (T := TX4) (N := 8) hx hb hts inX4 hown hK hP 1 rfl rfl 6 (by decide) (hts _ (gw kw_52 rfl)) (fun _ h9 => h9) rfl dX11_shakeVotes_35 ?_
  refine lv_iconst (v := 1) hx hb dX11_shakeVotes_38 (by decide) ?_
  refine lv_iadd hx hb dX11_shakeVotes_39 ?_
  refine lv_topi (fun x_8 e_8 => ?_)
  refine lv_istore (lv' := [(4, Value.int x_8), (2, Value.long (lI (100 ^ (sn + 1 - (sn + 1))))), (0, Value.ref h0), (1, Value.int y0)]) hx hb dX11_shakeVotes_40 hl (by decide) rfl (fun ls hl => ?_)
  have h9 : x_8 = nI (sn + 1) := by rw [e_8, nI_1]
  subst h9
  have lp_42 : ∀ (fu : Nat) (j : Nat) (cc : Nat → Int64) (hfu : n - j < fu) (hj : sn < j ∧ j ≤ n) (hcc : ∀ w, w < 73 → cc w = lI (DC W0 y0 (S5 4) sn (j - (sn + 1)) w)) (H : Heap) (locs : List Loc) (ls : Array Slot), va_P (dC, dI) classes [oX11 h0 xp xtp xn xt xk xl xc xo xto xr xch ts ik st, oX4 xn ek ef ew ep es (nI n) (nI sn) dn, cI aC ew 8 wf, cI aC es 5 stf, cL aC xch 73 cc] H → va_D A [oX11 h0 xp xtp xn xt xk xl xc xo xto xr xch ts ik st, oX4 xn ek ef ew ep es (nI n) (nI sn) dn, cI aC ew 8 wf, cI aC es 5 stf, cL aC xch 73 cc] → va_S A s.heap H locs → lv_has ls 7 [(0, Value.ref h0), (1, Value.int y0), (2, Value.long (lI (100 ^ (j - (sn + 1))))), (4, Value.int (nI j))] → W p l e (headSpec (wW yX11_shakeVotes cX11_shakeVotes 7 (some .long)) ({ frames := 1, cells := 0, slots := 0, locals := 25 } : Room)).room s m ([Value.ref h0, Value.int y0] : List Value).toArray below meth c H locs 0 0 (MQ below (va_Ql (fun (r : Int64) (chg : Nat → Int64) => r = lI (100 ^ (n - 1 - sn)) ∧ ∀ w, w < 73 → chg w = lI (DC W0 y0 (S5 4) sn (n - 1 - sn) w)) (fun (chg : Nat → Int64) (t : State) => va_P (dC, dI) classes [oX11 h0 xp xtp xn xt xk xl xc xo xto xr xch ts ik st, oX4 xn ek ef ew ep es (nI n) (nI sn) dn, cI aC ew 8 wf, cI aC es 5 stf, cL aC xch 73 chg] t.heap ∧ va_K (dC, dI) classes (TY aC) t ∧ va_D A [oX11 h0 xp xtp xn xt xk xl xc xo xto xr xch ts ik st, oX4 xn ek ef ew ep es (nI n) (nI sn) dn, cI aC ew 8 wf, cI aC es 5 stf, cL aC xch 73 chg]) A) ([Value.ref h0, Value.int y0] : List Value).toArray s 0 0 A) (F0 m 42 ls []) := by
    intro fu
    induction fu with
    | zero => intro j cc hfu; exact absurd hfu (Nat.not_lt_zero _)
    | succ fu ih_42 =>
      intro j cc hfu hj hcc H locs ls hP hD hS hl
      refine lv_iload hx hb dX11_shakeVotes_42 (lv_at hl 3 rfl) ?_
      refine lv_aload_n hx hb dX11_shakeVotes_44 rfl (lv_at hl 0 rfl) ?_
      refine va_get (D := (dC, dI)) (ci := 11) (v := Value.ref xn) (C := RX11) (T := TX11) (N := 14) hx hb hts inX11 hown hK hP 0 rfl rfl 2 (by decide) (hts _ (gw kw_228 rfl)) (fun _ h9 => h9) rfl dX11_shakeVotes_45 ?_
      refine va_get (D := (dC, dI)) (ci := 4) (v := Value.int (nI n)) (C := RX4) (T := TX4) (N := 8) hx hb hts inX4 hown hK hP 1 rfl rfl 5 (by decide) (hts _ (gw kw_50 rfl)) (fun _ h9 => h9) rfl dX11_shakeVotes_48 ?_
      refine lv_icmp_ge (tgt := 115) hx hb dX11_shakeVotes_51 (by decide) (fun c_9 => ?_) (fun c_9 => ?_)
      · have hjn : j = n := by
          rcases Nat.lt_or_ge j n with q | q
          · exact absurd c_9 (nI_ge q (by omega))
          · omega
        refine lv_lload_n hx hb dX11_shakeVotes_115 rfl (lv_at hl 2 rfl) ?_
        have hpd9 := pd_N (cx := [oX11 h0 xp xtp xn xt xk xl xc xo xto xr xch ts ik st, oX4 xn ek ef ew ep es (nI n) (nI sn) dn, cI aC ew 8 wf, cI aC es 5 stf, cL aC xch 73 cc]) hP hD [0, 1, 2, 3, 4] (by decide) rfl
        have hP9 := hpd9.1
        have hD9 := hpd9.2
        refine W.widen (k := 0) (n := 0) (by omega) (by omega) ?_
        exact W.lret (v := lI (100 ^ (j - (sn + 1)))) hx hb hr (fun t ht hW => ⟨⟨(lI (100 ^ (j - (sn + 1)))), (cc), rfl, ⟨by rw [hjn, show n - (sn + 1) = n - 1 - sn by omega], fun w hw => by rw [hcc w hw, hjn, show n - (sn + 1) = n - 1 - sn by omega]⟩, by rw [ht]; exact hP9, va_K.moved hW.alike hK, hD9⟩, hS.F ht⟩) hS.2.2 dX11_shakeVotes_116
      · have hlt : j < n := by
          rcases Nat.lt_or_ge j n with q | q
          · exact q
          · exact absurd (nI_le q (by omega)) c_9
        refine lv_aload_n hx hb dX11_shakeVotes_54 rfl (lv_at hl 0 rfl) ?_
        refine va_get (D := (dC, dI)) (ci := 11) (v := Value.ref xn) (C := RX11) (T := TX11) (N := 14) hx hb hts inX11 hown hK hP 0 rfl rfl 2 (by decide) (hts _ (gw kw_228 rfl)) (fun _ h9 => h9) rfl dX11_shakeVotes_55 ?_
        refine va_get (D := (dC, dI)) (ci := 4) (v := Value.ref es) (C := RX4) (T := TX4) (N := 8) hx hb hts inX4 hown hK hP 1 rfl rfl 4 (by decide) (hts _ (gw kw_45 rfl)) (fun _ h9 => h9) rfl dX11_shakeVotes_58 ?_
        refine lv_iconst (v := 4) hx hb dX11_shakeVotes_61 (by decide) ?_
        have h_10 : vp_in 4 5 := by unfold vp_in; decide
        refine va_iald hx hb hK hP 3 0 rfl rfl h_10 dX11_shakeVotes_62 ?_
        refine lv_topi (fun x_11 e_11 => ?_)
        have h9 : x_11 = nI (S5 4) := by rw [e_11]; exact hev.2.1 4 (by omega)
        subst h9
        refine lv_istore (lv' := [(5, Value.int (nI (S5 4))), (0, Value.ref h0), (1, Value.int y0), (2, Value.long (lI (100 ^ (j - (sn + 1))))), (4, Value.int (nI j))]) hx hb dX11_shakeVotes_63 hl (by decide) rfl (fun ls hl => ?_)
        refine lv_iload_n hx hb dX11_shakeVotes_65 rfl (lv_at hl 2 rfl) ?_
        refine lv_iload hx hb dX11_shakeVotes_66 (lv_at hl 4 rfl) ?_
        refine lv_ishr hx hb dX11_shakeVotes_68 ?_
        refine lv_topi (fun x_12 e_12 => ?_)
        refine lv_iconst (v := 1) hx hb dX11_shakeVotes_69 (by decide) ?_
        refine lv_iand hx hb dX11_shakeVotes_70 ?_
        refine lv_topi (fun x_13 e_13 => ?_)
        refine lv_iconst (v := 1) hx hb dX11_shakeVotes_71 (by decide) ?_
        refine lv_icmp_ne (tgt := 83) hx hb dX11_shakeVotes_72 (by decide) (fun c_14 => ?_) (fun c_14 => ?_)
        · refine lv_iload hx hb dX11_shakeVotes_83 (lv_at hl 0 rfl) ?_
          refine lv_istore (lv' := [(6, Value.int (nI (S5 4))), (5, Value.int (nI (S5 4))), (0, Value.ref h0), (1, Value.int y0), (2, Value.long (lI (100 ^ (j - (sn + 1))))), (4, Value.int (nI j))]) hx hb dX11_shakeVotes_85 hl (by decide) rfl (fun ls hl => ?_)
          have hye : ¬ bt y0 j = true := fun q => c_14 (by rw [e_13, e_12, b_bit (by omega), if_pos q])
          have hyj : nI (S5 4) = nI (yj y0 (S5 4) j) := by unfold yj; rw [if_neg hye]
          have hl : lv_has ls 7 [(6, Value.int (nI (yj y0 (S5 4) j))), (5, Value.int (nI (S5 4))), (0, Value.ref h0), (1, Value.int y0), (2, Value.long (lI (100 ^ (j - (sn + 1))))), (4, Value.int (nI j))] := by rw [← hyj]; exact hl
          refine lv_aload_n hx hb dX11_shakeVotes_87 rfl (lv_at hl 2 rfl) ?_
          refine lv_aload_n hx hb dX11_shakeVotes_88 rfl (lv_at hl 2 rfl) ?_
          refine va_get (D := (dC, dI)) (ci := 11) (v := Value.ref xn) (C := RX11) (T := TX11) (N := 14) hx hb hts inX11 hown hK hP 0 rfl rfl 2 (by decide) (hts _ (gw kw_228 rfl)) (fun _ h9 => h9) rfl dX11_shakeVotes_89 ?_
          refine va_get (D := (dC, dI)) (ci := 4) (v := Value.ref ew) (C := RX4) (T := TX4) (N := 8) hx hb hts inX4 hown hK hP 1 rfl rfl 2 (by decide) (hts _ (gw kw_39 rfl)) (fun _ h9 => h9) rfl dX11_shakeVotes_92 ?_
          refine lv_iload hx hb dX11_shakeVotes_95 (lv_at hl 5 rfl) ?_
          have h_15 : vp_in (nI j) 8 := by first | exact vp_in_nI (by omega) (by omega) | (unfold vp_in; decide) | (subst_vars; first | (unfold vp_in; decide) | exact vp_in_nI (by omega) (by omega))
          refine va_iald hx hb hK hP 2 0 rfl rfl h_15 dX11_shakeVotes_97 ?_
          refine lv_topi (fun x_16 e_16 => ?_)
          have h9 : x_16 = nI (W0 j) := by rw [e_16, nI_clamp (by omega)]; exact (hw.2 j hlt).1
          subst h9
          refine lv_iload hx hb dX11_shakeVotes_98 (lv_at hl 0 rfl) ?_
          have hpd9 := pdf_N (cx := [oX11 h0 xp xtp xn xt xk xl xc xo xto xr xch ts ik st, cL aC xch 73 cc]) hP hD hS hA [0, 4] (by decide) rfl
          have hPc := hpd9.1
          have hDc := hpd9.2.1
          have hFc := hpd9.2.2
          clear hpd9
          refine va_callv (va_runV (As := [Value.int (nI (W0 j)), Value.int (nI (yj y0 (S5 4) j))]) (rest := []) ⟨hx, hb, hml, hown, hts⟩ (c_X11_addVoter l dC dI aC H.size h0 xp xtp xn xt xk xl xc xo xto xr xch ts ik st cc (W0 j) (yj y0 (S5 4) j) (DC W0 y0 (S5 4) sn (j - (sn + 1))) ((hw.2 j hlt).2) (yj_le (by omega)) (hcc)) ⟨(callB_of 2 hts (gG kw_659) rfl rfl rfl (hts _ (gw kw_1 rfl)) (hts _ (gw kw_656 rfl)) hd_X11_addVoter ⟨Nat.le_of_ble_eq_true rfl, Nat.le_of_ble_eq_true rfl⟩), (hts _ (gw kw_658 rfl)), (hts _ (gw ks_30 rfl))⟩ ⟨fb_std, va_recv (q := (RX11, TX11, 14)) hK hPc (ci := 11) (q0 := 0) rfl rfl, pre_std hPc hK hDc hN⟩ rfl rfl hl.1 rfl (lv_room (Nat.le_of_ble_eq_true rfl)) dX11_shakeVotes_100 ⟨Nat.le_of_ble_eq_true rfl, Nat.le_of_ble_eq_true rfl⟩) hS (fun q _ h => hFc q h) hFc (fun u9 t9 H1 locs ht hvm hw_17 hB hz1 hk1 hS => ?_)
          obtain ⟨u_18, rfl⟩ : ∃ z, z = u9 := ⟨_, rfl⟩
          obtain ⟨hP1, hK1, hD1⟩ := hB
          rw [ht] at hP1
          clear hK1
          try dsimp only at hw_17
          have hpd9 : PDx (dC, dI) classes A H1 [oX4 xn ek ef ew ep es (nI n) (nI sn) dn, cI aC ew 8 wf, cI aC es 5 stf, oX11 h0 xp xtp xn xt xk xl xc xo xto xr xch ts ik st, cL aC xch 73 u_18] := jn_N (wr := [oX4 xn ek ef ew ep es (nI n) (nI sn) dn, cI aC ew 8 wf, cI aC es 5 stf]) hFc hk1 hP1 hD1 hP hD [0, 4] [1, 2, 3] rfl rfl (by decide) (by decide)
          have hP := hpd9.1
          have hD := hpd9.2
          clear hpd9
          generalize H1 = H at hP hS ⊢
          clear hPc hDc hFc hz1 hk1 hP1 hD1 ht hvm
          have hav := hw_17
          refine lv_lload_n hx hb dX11_shakeVotes_103 rfl (lv_at hl 4 rfl) ?_
          refine lv_ldc2 hx hb hown (hts _ (gw kw_660 rfl)) dX11_shakeVotes_104 ?_
          refine lv_lmul hx hb dX11_shakeVotes_107 ?_
          refine lv_topl (fun x_19 e_19 => ?_)
          have h9 : x_19 = lI (100 ^ (j + 1 - (sn + 1))) := by rw [e_19, show (100 : Int64) = lI 100 from rfl, lI_mul]; congr 1; rw [show j + 1 - (sn + 1) = (j - (sn + 1)) + 1 by omega, Nat.pow_succ]
          subst h9
          refine lv_lstore_n (lv' := [(2, Value.long (lI (100 ^ (j + 1 - (sn + 1))))), (6, Value.int (nI (yj y0 (S5 4) j))), (5, Value.int (nI (S5 4))), (0, Value.ref h0), (1, Value.int y0), (4, Value.int (nI j))]) hx hb dX11_shakeVotes_108 rfl hl (by decide) rfl (fun ls hl => ?_)
          obtain ⟨x_20, e_20⟩ : ∃ y : Int32, y = (nI j) + 1 := ⟨_, rfl⟩
          refine lv_iinc (v := x_20) (lv' := [(4, Value.int x_20), (2, Value.long (lI (100 ^ (j + 1 - (sn + 1))))), (6, Value.int (nI (yj y0 (S5 4) j))), (5, Value.int (nI (S5 4))), (0, Value.ref h0), (1, Value.int y0)]) hx hb dX11_shakeVotes_109 hl (k := 5) rfl (by rw [e_20]; rfl) (by decide) rfl (fun ls hl => ?_)
          have h9 : x_20 = nI (j + 1) := by rw [e_20, nI_1]
          subst h9
          refine lv_goto (tgt := 42) hx hb dX11_shakeVotes_112 (by decide) ?_
          exact ih_42 (j + 1) u_18 (ms_lt hlt hfu) (by omega) (fun w hw => by rw [hav w hw, show j + 1 - (sn + 1) = (j - (sn + 1)) + 1 by omega]; show _ = lI (AV _ (W0 (sn + 1 + (j - (sn + 1)))) (yj _ _ (sn + 1 + (j - (sn + 1)))) w); rw [show sn + 1 + (j - (sn + 1)) = j by omega]) _ _ _ (hP.sub [3, 0, 1, 2, 4] rfl) (hD.sub [3, 0, 1, 2, 4] (by decide) rfl) hS (lv_sub hl [4, 5, 1, 0] rfl)
        · refine lv_bipush (v := 100) hx hb dX11_shakeVotes_75 (by decide) ?_
          refine lv_iload hx hb dX11_shakeVotes_77 (lv_at hl 0 rfl) ?_
          refine lv_isub hx hb dX11_shakeVotes_79 ?_
          refine lv_topi (fun x_21 e_21 => ?_)
          have h9 : x_21 = nI (100 - S5 4) := by rw [e_21]; exact pk_sub (a := 100) (by omega)
          subst h9
          refine lv_goto (tgt := 85) hx hb dX11_shakeVotes_80 (by decide) ?_
          refine lv_istore (lv' := [(6, Value.int (nI (100 - S5 4))), (5, Value.int (nI (S5 4))), (0, Value.ref h0), (1, Value.int y0), (2, Value.long (lI (100 ^ (j - (sn + 1))))), (4, Value.int (nI j))]) hx hb dX11_shakeVotes_85 hl (by decide) rfl (fun ls hl => ?_)
          have hye : bt y0 j = true := by
            by_cases q : bt y0 j = true
            · exact q
            · exact absurd (c_14.symm.trans (by rw [e_13, e_12, b_bit (by omega), if_neg q])) (by decide)
          have hyj : nI (100 - S5 4) = nI (yj y0 (S5 4) j) := by unfold yj; rw [if_pos hye]
          have hl : lv_has ls 7 [(6, Value.int (nI (yj y0 (S5 4) j))), (5, Value.int (nI (S5 4))), (0, Value.ref h0), (1, Value.int y0), (2, Value.long (lI (100 ^ (j - (sn + 1))))), (4, Value.int (nI j))] := by rw [← hyj]; exact hl
          refine lv_aload_n hx hb dX11_shakeVotes_87 rfl (lv_at hl 2 rfl) ?_
          refine lv_aload_n hx hb dX11_shakeVotes_88 rfl (lv_at hl 2 rfl) ?_
          refine va_get (D := (dC, dI)) (ci := 11) (v := Value.ref xn) (C := RX11) (T := TX11) (N := 14) hx hb hts inX11 hown hK hP 0 rfl rfl 2 (by decide) (hts _ (gw kw_228 rfl)) (fun _ h9 => h9) rfl dX11_shakeVotes_89 ?_
          refine va_get (D := (dC, dI)) (ci := 4) (v := Value.ref ew) (C := RX4) (T := TX4) (N := 8) hx hb hts inX4 hown hK hP 1 rfl rfl 2 (by decide) (hts _ (gw kw_39 rfl)) (fun _ h9 => h9) rfl dX11_shakeVotes_92 ?_
          refine lv_iload hx hb dX11_shakeVotes_95 (lv_at hl 5 rfl) ?_
          have h_22 : vp_in (nI j) 8 := by first | exact vp_in_nI (by omega) (by omega) | (unfold vp_in; decide) | (subst_vars; first | (unfold vp_in; decide) | exact vp_in_nI (by omega) (by omega))
          refine va_iald hx hb hK hP 2 0 rfl rfl h_22 dX11_shakeVotes_97 ?_
          refine lv_topi (fun x_23 e_23 => ?_)
          have h9 : x_23 = nI (W0 j) := by rw [e_23, nI_clamp (by omega)]; exact (hw.2 j hlt).1
          subst h9
          refine lv_iload hx hb dX11_shakeVotes_98 (lv_at hl 0 rfl) ?_
          have hpd9 := pdf_N (cx := [oX11 h0 xp xtp xn xt xk xl xc xo xto xr xch ts ik st, cL aC xch 73 cc]) hP hD hS hA [0, 4] (by decide) rfl
          have hPc := hpd9.1
          have hDc := hpd9.2.1
          have hFc := hpd9.2.2
          clear hpd9
          refine va_callv (va_runV (As := [Value.int (nI (W0 j)), Value.int (nI (yj y0 (S5 4) j))]) (rest := []) ⟨hx, hb, hml, hown, hts⟩ (c_X11_addVoter l dC dI aC H.size h0 xp xtp xn xt xk xl xc xo xto xr xch ts ik st cc (W0 j) (yj y0 (S5 4) j) (DC W0 y0 (S5 4) sn (j - (sn + 1))) ((hw.2 j hlt).2) (yj_le (by omega)) (hcc)) ⟨(callB_of 2 hts (gG kw_659) rfl rfl rfl (hts _ (gw kw_1 rfl)) (hts _ (gw kw_656 rfl)) hd_X11_addVoter ⟨Nat.le_of_ble_eq_true rfl, Nat.le_of_ble_eq_true rfl⟩), (hts _ (gw kw_658 rfl)), (hts _ (gw ks_30 rfl))⟩ ⟨fb_std, va_recv (q := (RX11, TX11, 14)) hK hPc (ci := 11) (q0 := 0) rfl rfl, pre_std hPc hK hDc hN⟩ rfl rfl hl.1 rfl (lv_room (Nat.le_of_ble_eq_true rfl)) dX11_shakeVotes_100 ⟨Nat.le_of_ble_eq_true rfl, Nat.le_of_ble_eq_true rfl⟩) hS (fun q _ h => hFc q h) hFc (fun u9 t9 H1 locs ht hvm hw_24 hB hz1 hk1 hS => ?_)
          obtain ⟨u_25, rfl⟩ : ∃ z, z = u9 := ⟨_, rfl⟩
          obtain ⟨hP1, hK1, hD1⟩ := hB
          rw [ht] at hP1
          clear hK1
          try dsimp only at hw_24
          have hpd9 : PDx (dC, dI) classes A H1 [oX4 xn ek ef ew ep es (nI n) (nI sn) dn, cI aC ew 8 wf, cI aC es 5 stf, oX11 h0 xp xtp xn xt xk xl xc xo xto xr xch ts ik st, cL aC xch 73 u_25] := jn_N (wr := [oX4 xn ek ef ew ep es (nI n) (nI sn) dn, cI aC ew 8 wf, cI aC es 5 stf]) hFc hk1 hP1 hD1 hP hD [0, 4] [1, 2, 3] rfl rfl (by decide) (by decide)
          have hP := hpd9.1
          have hD := hpd9.2
          clear hpd9
          generalize H1 = H at hP hS ⊢
          clear hPc hDc hFc hz1 hk1 hP1 hD1 ht hvm
          have hav := hw_24
          refine lv_lload_n hx hb dX11_shakeVotes_103 rfl (lv_at hl 4 rfl) ?_
          refine lv_ldc2 hx hb hown (hts _ (gw kw_660 rfl)) dX11_shakeVotes_104 ?_
          refine lv_lmul hx hb dX11_shakeVotes_107 ?_
          refine lv_topl (fun x_26 e_26 => ?_)
          have h9 : x_26 = lI (100 ^ (j + 1 - (sn + 1))) := by rw [e_26, show (100 : Int64) = lI 100 from rfl, lI_mul]; congr 1; rw [show j + 1 - (sn + 1) = (j - (sn + 1)) + 1 by omega, Nat.pow_succ]
          subst h9
          refine lv_lstore_n (lv' := [(2, Value.long (lI (100 ^ (j + 1 - (sn + 1))))), (6, Value.int (nI (yj y0 (S5 4) j))), (5, Value.int (nI (S5 4))), (0, Value.ref h0), (1, Value.int y0), (4, Value.int (nI j))]) hx hb dX11_shakeVotes_108 rfl hl (by decide) rfl (fun ls hl => ?_)
          obtain ⟨x_27, e_27⟩ : ∃ y : Int32, y = (nI j) + 1 := ⟨_, rfl⟩
          refine lv_iinc (v := x_27) (lv' := [(4, Value.int x_27), (2, Value.long (lI (100 ^ (j + 1 - (sn + 1))))), (6, Value.int (nI (yj y0 (S5 4) j))), (5, Value.int (nI (S5 4))), (0, Value.ref h0), (1, Value.int y0)]) hx hb dX11_shakeVotes_109 hl (k := 5) rfl (by rw [e_27]; rfl) (by decide) rfl (fun ls hl => ?_)
          have h9 : x_27 = nI (j + 1) := by rw [e_27, nI_1]
          subst h9
          refine lv_goto (tgt := 42) hx hb dX11_shakeVotes_112 (by decide) ?_
          exact ih_42 (j + 1) u_25 (ms_lt hlt hfu) (by omega) (fun w hw => by rw [hav w hw, show j + 1 - (sn + 1) = (j - (sn + 1)) + 1 by omega]; show _ = lI (AV _ (W0 (sn + 1 + (j - (sn + 1)))) (yj _ _ (sn + 1 + (j - (sn + 1)))) w); rw [show sn + 1 + (j - (sn + 1)) = j by omega]) _ _ _ (hP.sub [3, 0, 1, 2, 4] rfl) (hD.sub [3, 0, 1, 2, 4] (by decide) rfl) hS (lv_sub hl [4, 5, 1, 0] rfl)
  exact lp_42 ((n - (sn + 1)) + 1) (sn + 1) f_6 (Nat.lt_succ_self _) (by omega) (fun w hw => by rw [Nat.sub_self]; exact hc0 w hw) _ _ _ (hP.sub [0, 1, 2, 3, 4] rfl) (hD.sub [0, 1, 2, 3, 4] (by decide) rfl) hS (lv_sub hl [2, 3, 1, 0] rfl)

set_option maxHeartbeats 1000000 in
set_option maxRecDepth 100000 in
/-- X11_chanceCarried -/
theorem c_X11_chanceCarried (l : Launch) (dC : Nat → ClassId) (dI : Nat → Nat → Nat) (aC : Nat → ClassId) (sz : Nat) (h0 : Nat) (xp : Nat) (xtp : Nat) (xn : Nat) (xt : Nat) (xk : Nat) (xl : Nat) (xc : Nat) (xo : Nat) (xto : Nat) (xr : Nat) (xch : Nat) (ts : Int32) (ik : Int32) (st : Int32) (ek : Nat) (ef : Nat) (ew : Nat) (ep : Nat) (es : Nat) (n : Nat) (sn : Nat) (dn : Int32) (kf : Nat → Int32) (ff : Nat → Int32) (wf : Nat → Int32) (stf : Nat → Int32) (K : Nat → Nat) (F : Nat → Nat) (W0 : Nat → Nat) (S5 : Nat → Nat) (chf : Nat → Int64) (Dp : Nat → Nat) (hev : EVS n sn dn K F W0 S5 kf ff wf stf) (hch : ∀ w, w < 73 → chf w = lI (Dp w)) : Met l yX11_chanceCarried (wW yX11_chanceCarried cX11_chanceCarried 5 (some .long)) ({ frames := 2, cells := 0, slots := 0, locals := 36 } : Room) (va_Pc [Value.ref h0] (fun U => U.heap.size = sz ∧ va_P (dC, dI) classes [oX11 h0 xp xtp xn xt xk xl xc xo xto xr xch ts ik st, oX4 xn ek ef ew ep es (nI n) (nI sn) dn, cI aC ew 8 wf, cI aC es 5 stf, cL aC xch 73 chf] U.heap ∧ va_K (dC, dI) classes (TY aC) U ∧ va_D (fun _ => True) [oX11 h0 xp xtp xn xt xk xl xc xo xto xr xch ts ik st, oX4 xn ek ef ew ep es (nI n) (nI sn) dn, cI aC ew 8 wf, cI aC es 5 stf, cL aC xch 73 chf] ∧ NX U)) (va_Ql (fun (r : Int64) (_ : Unit) => r = lI (sumr (fun w => if nd (nI (S5 1)) (sumr W0 sn (n - sn)) ≤ w then Dp w else 0) 0 73)) (fun (_ : Unit) (t : State) => va_P (dC, dI) classes [oX11 h0 xp xtp xn xt xk xl xc xo xto xr xch ts ik st, oX4 xn ek ef ew ep es (nI n) (nI sn) dn, cI aC ew 8 wf, cI aC es 5 stf, cL aC xch 73 chf] t.heap ∧ va_K (dC, dI) classes (TY aC) t ∧ va_D (va_A [oX11 h0 xp xtp xn xt xk xl xc xo xto xr xch ts ik st, oX4 xn ek ef ew ep es (nI n) (nI sn) dn, cI aC ew 8 wf, cI aC es 5 stf, cL aC xch 73 chf] sz) [oX11 h0 xp xtp xn xt xk xl xc xo xto xr xch ts ik st, oX4 xn ek ef ew ep es (nI n) (nI sn) dn, cI aC ew 8 wf, cI aC es 5 stf, cL aC xch 73 chf]) (va_A [oX11 h0 xp xtp xn xt xk xl xc xo xto xr xch ts ik st, oX4 xn ek ef ew ep es (nI n) (nI sn) dn, cI aC ew 8 wf, cI aC es 5 stf, cL aC xch 73 chf] sz)) 0 0 (va_A [oX11 h0 xp xtp xn xt xk xl xc xo xto xr xch ts ik st, oX4 xn ek ef ew ep es (nI n) (nI sn) dn, cI aC ew 8 wf, cI aC es 5 stf, cL aC xch 73 chf] sz) := by
  refine Met.ofW (cc := cX11_chanceCarried) (maxL := 5) (ret := (some .long)) (by decide) rfl ?_
  intro p e s m args below meth c s₁ B hml hv
  obtain ⟨rfl, hsz, hP, hK, hD0, hN⟩ := hv
  have hx := B.exec
  have hb := B.bytes
  have hr := B.returns
  have hts0 := atoms_spec (ws := (wW yX11_chanceCarried cX11_chanceCarried 5 (some .long))) B.pre
  have hts : ∀ w9 ∈ lw_G, w9.before ([Value.ref h0] : List Value).toArray s = true := fun w9 h9 => hts0 w9 (List.mem_cons_of_mem _ h9)
  have hown : s.vm.findClass RX11 = some m.cls := findClass_of_methodNamed (x := yX11_chanceCarried) B.named
  have hlocks := B.notSynchronized
  subst hsz
  have hD := hD0.self (sz := s.heap.size)
  generalize hAe : va_A [oX11 h0 xp xtp xn xt xk xl xc xo xto xr xch ts ik st, oX4 xn ek ef ew ep es (nI n) (nI sn) dn, cI aC ew 8 wf, cI aC es 5 stf, cL aC xch 73 chf] s.heap.size = A at hD ⊢
  have hA : ∀ q : Nat, s.heap.size ≤ q → A q := fun q h => by rw [← hAe]; exact Or.inr h
  obtain ⟨H, hHe⟩ : ∃ H : Heap, H = s.heap := ⟨_, rfl⟩
  have hS : va_S A s.heap H [] := by rw [hHe]; exact va_S.rf
  have hP : va_P (dC, dI) classes [oX11 h0 xp xtp xn xt xk xl xc xo xto xr xch ts ik st, oX4 xn ek ef ew ep es (nI n) (nI sn) dn, cI aC ew 8 wf, cI aC es 5 stf, cL aC xch 73 chf] H := by rw [hHe]; exact hP
  have hl := lv_entry ([Value.ref h0]) (n := 5) (Nat.le_of_ble_eq_true rfl)
  rw [lg_entry_eq]
  generalize (lg_sl ([Value.ref h0]) ++ List.replicate (5 - (lg_sl ([Value.ref h0])).length) Slot.unset).toArray = ls at hl ⊢
  have hl : lv_has ls 5 [(0, Value.ref h0)] := hl
  rw [← hHe]
  have hn8 := EVS_n hev
  have hw := HW_of hev.1
  have hs9 := w_le (W := W0) (a := sn) (k := n - sn) (fun j q => (hw.2 j q).2) (by have := sn_le hev; omega) hn8
  refine lv_aload_n hx hb dX11_chanceCarried_0 rfl (lv_at hl 0 rfl) ?_
  refine va_get (D := (dC, dI)) (ci := 11) (v := Value.ref xn) (C := RX11) (T := TX11) (N := 14) hx hb hts inX11 hown hK hP 0 rfl rfl 2 (by decide) (hts _ (gw kw_228 rfl)) (fun _ h9 => h9) rfl dX11_chanceCarried_1 ?_
  refine lv_aload_n hx hb dX11_chanceCarried_4 rfl (lv_at hl 0 rfl) ?_
  refine va_get (D := (dC, dI)) (ci := 11) (v := Value.ref xn) (C := RX11) (T := TX11) (N := 14) hx hb hts inX11 hown hK hP 0 rfl rfl 2 (by decide) (hts _ (gw kw_228 rfl)) (fun _ h9 => h9) rfl dX11_chanceCarried_5 ?_
  refine va_get (D := (dC, dI)) (ci := 4) (v := Value.int (nI sn)) (C := RX4) (T := TX4) (N := 8) hx hb hts inX4 hown hK hP 1 rfl rfl 6 (by decide) (hts _ (gw kw_52 rfl)) (fun _ h9 => h9) rfl dX11_chanceCarried_8 ?_
  have hpd9 := pdf_N (cx := [oX4 xn ek ef ew ep es (nI n) (nI sn) dn, cI aC ew 8 wf]) hP hD hS hA [1, 2] (by decide) rfl
  have hPc := hpd9.1
  have hDc := hpd9.2.1
  have hFc := hpd9.2.2
  clear hpd9
  refine va_calli (va_runV (As := [Value.int (nI sn)]) (rest := []) ⟨hx, hb, hml, hown, hts⟩ (c_X4_weightFrom l dC dI aC H.size xn ek ef ew ep es n (nI sn) dn wf W0 sn (hw) (sn_le hev)) ⟨(callB_of 1 hts (gG kw_465) rfl rfl rfl (hts _ (gw kw_2 rfl)) (hts _ (gw kw_665 rfl)) hd_X4_weightFrom ⟨Nat.le_of_ble_eq_true rfl, Nat.le_of_ble_eq_true rfl⟩), (hts _ (gw kw_463 rfl)), (hts _ (gw kw_464 rfl))⟩ ⟨fb_std, va_recv (q := (RX4, TX4, 8)) hK hPc (ci := 4) (q0 := 0) rfl rfl, pre_std hPc hK hDc hN⟩ rfl rfl hl.1 rfl (lv_room (Nat.le_of_ble_eq_true rfl)) dX11_chanceCarried_11 ⟨Nat.le_of_ble_eq_true rfl, Nat.le_of_ble_eq_true rfl⟩) hS (fun q _ h => hFc q h) hFc (fun x_1 u9 t9 H1 locs ht hvm hw_1 hB hz1 hk1 hS => ?_)
  obtain ⟨hP1, hK1, hD1⟩ := hB
  rw [ht] at hP1
  clear hK1
  try dsimp only at hw_1
  have hpd9 : PDx (dC, dI) classes A H1 [oX11 h0 xp xtp xn xt xk xl xc xo xto xr xch ts ik st, cI aC es 5 stf, cL aC xch 73 chf, oX4 xn ek ef ew ep es (nI n) (nI sn) dn, cI aC ew 8 wf] := jn_N (wr := [oX11 h0 xp xtp xn xt xk xl xc xo xto xr xch ts ik st, cI aC es 5 stf, cL aC xch 73 chf]) hFc hk1 hP1 hD1 hP hD [1, 2] [0, 3, 4] rfl rfl (by decide) (by decide)
  have hP := hpd9.1
  have hD := hpd9.2
  clear hpd9
  generalize H1 = H at hP hS ⊢
  clear hPc hDc hFc hz1 hk1 hP1 hD1 ht hvm
  have h9 : x_1 = nI (sumr W0 sn (n - sn)) := hw_1
  subst h9
  refine lv_istore_n (lv' := [(1, Value.int (nI (sumr W0 sn (n - sn)))), (0, Value.ref h0)]) hx hb dX11_chanceCarried_14 rfl hl (by decide) rfl (fun ls hl => ?_)
  refine lv_lconst (v := 0) hx hb dX11_chanceCarried_15 (by decide) ?_
  refine lv_topl (fun x_2 e_2 => ?_)
  have h9 : x_2 = lI (sumr (fun w => if nd (nI (S5 1)) (sumr W0 sn (n - sn)) ≤ w then Dp w else 0) 0 0) := by rw [e_2]; rfl
  subst h9
  refine lv_lstore_n (lv' := [(2, Value.long (lI (sumr (fun w => if nd (nI (S5 1)) (sumr W0 sn (n - sn)) ≤ w then Dp w else 0) 0 0))), (1, Value.int (nI (sumr W0 sn (n - sn)))), (0, Value.ref h0)]) hx hb dX11_chanceCarried_16 rfl hl (by decide) rfl (fun ls hl => ?_)
  refine lv_iconst (v := 0) hx hb dX11_chanceCarried_17 (by decide) ?_
  refine lv_istore (lv' := [(4, Value.int 0), (2, Value.long (lI (sumr (fun w => if nd (nI (S5 1)) (sumr W0 sn (n - sn)) ≤ w then Dp w else 0) 0 0))), (1, Value.int (nI (sumr W0 sn (n - sn)))), (0, Value.ref h0)]) hx hb dX11_chanceCarried_18 hl (by decide) rfl (fun ls hl => ?_)
  have lp_20 : ∀ (fu : Nat) (k : Nat) (hfu : 73 - k < fu) (hk : k ≤ 73) (H : Heap) (locs : List Loc) (ls : Array Slot), va_P (dC, dI) classes [oX11 h0 xp xtp xn xt xk xl xc xo xto xr xch ts ik st, cI aC es 5 stf, cL aC xch 73 chf, oX4 xn ek ef ew ep es (nI n) (nI sn) dn, cI aC ew 8 wf] H → va_D A [oX11 h0 xp xtp xn xt xk xl xc xo xto xr xch ts ik st, cI aC es 5 stf, cL aC xch 73 chf, oX4 xn ek ef ew ep es (nI n) (nI sn) dn, cI aC ew 8 wf] → va_S A s.heap H locs → lv_has ls 5 [(0, Value.ref h0), (1, Value.int (nI (sumr W0 sn (n - sn)))), (2, Value.long (lI (sumr (fun w => if nd (nI (S5 1)) (sumr W0 sn (n - sn)) ≤ w then Dp w else 0) 0 k))), (4, Value.int (nI k))] → W p l e (headSpec (wW yX11_chanceCarried cX11_chanceCarried 5 (some .long)) ({ frames := 2, cells := 0, slots := 0, locals := 36 } : Room)).room s m ([Value.ref h0] : List Value).toArray below meth c H locs 0 0 (MQ below (va_Ql (fun (r : Int64) (_ : Unit) => r = lI (sumr (fun w => if nd (nI (S5 1)) (sumr W0 sn (n - sn)) ≤ w then Dp w else 0) 0 73)) (fun (_ : Unit) (t : State) => va_P (dC, dI) classes [oX11 h0 xp xtp xn xt xk xl xc xo xto xr xch ts ik st, oX4 xn ek ef ew ep es (nI n) (nI sn) dn, cI aC ew 8 wf, cI aC es 5 stf, cL aC xch 73 chf] t.heap ∧ va_K (dC, dI) classes (TY aC) t ∧ va_D A [oX11 h0 xp xtp xn xt xk xl xc xo xto xr xch ts ik st, oX4 xn ek ef ew ep es (nI n) (nI sn) dn, cI aC ew 8 wf, cI aC es 5 stf, cL aC xch 73 chf]) A) ([Value.ref h0] : List Value).toArray s 0 0 A) (F0 m 20 ls []) := by
    intro fu
    induction fu with
    | zero => intro k hfu; exact absurd hfu (Nat.not_lt_zero _)
    | succ fu ih_20 =>
      intro k hfu hk H locs ls hP hD hS hl
      refine lv_iload hx hb dX11_chanceCarried_20 (lv_at hl 3 rfl) ?_
      refine lv_aload_n hx hb dX11_chanceCarried_22 rfl (lv_at hl 0 rfl) ?_
      refine va_get (D := (dC, dI)) (ci := 11) (v := Value.ref xch) (C := RX11) (T := TX11) (N := 14) hx hb hts inX11 hown hK hP 0 rfl rfl 10 (by decide) (hts _ (gw kw_236 rfl)) (fun _ h9 => h9) rfl dX11_chanceCarried_23 ?_
      refine va_alen (v := 73) hx hb hK hP 2 2 rfl rfl rfl dX11_chanceCarried_26 ?_
      refine lv_icmp_ge (tgt := 64) hx hb dX11_chanceCarried_27 (by decide) (fun c_3 => ?_) (fun c_3 => ?_)
      · have hk73 : k = 73 := by
          rcases Nat.lt_or_ge k 73 with q | q
          · exact absurd c_3 (nI_ge (b := 73) q (by omega))
          · omega
        refine lv_lload_n hx hb dX11_chanceCarried_64 rfl (lv_at hl 2 rfl) ?_
        have hpd9 := pd_N (cx := [oX11 h0 xp xtp xn xt xk xl xc xo xto xr xch ts ik st, oX4 xn ek ef ew ep es (nI n) (nI sn) dn, cI aC ew 8 wf, cI aC es 5 stf, cL aC xch 73 chf]) hP hD [0, 3, 4, 1, 2] (by decide) rfl
        have hP9 := hpd9.1
        have hD9 := hpd9.2
        refine W.widen (k := 0) (n := 0) (by omega) (by omega) ?_
        exact W.lret (v := lI (sumr (fun w => if nd (nI (S5 1)) (sumr W0 sn (n - sn)) ≤ w then Dp w else 0) 0 k)) hx hb hr (fun t ht hW => ⟨⟨(lI (sumr (fun w => if nd (nI (S5 1)) (sumr W0 sn (n - sn)) ≤ w then Dp w else 0) 0 k)), (), rfl, by rw [hk73], by rw [ht]; exact hP9, va_K.moved hW.alike hK, hD9⟩, hS.F ht⟩) hS.2.2 dX11_chanceCarried_65
      · have hlt : k < 73 := by
          rcases Nat.lt_or_ge k 73 with q | q
          · exact q
          · exact absurd (nI_le (a := 73) q (by omega)) c_3
        refine lv_aload_n hx hb dX11_chanceCarried_30 rfl (lv_at hl 0 rfl) ?_
        refine va_get (D := (dC, dI)) (ci := 11) (v := Value.ref xn) (C := RX11) (T := TX11) (N := 14) hx hb hts inX11 hown hK hP 0 rfl rfl 2 (by decide) (hts _ (gw kw_228 rfl)) (fun _ h9 => h9) rfl dX11_chanceCarried_31 ?_
        refine va_get (D := (dC, dI)) (ci := 4) (v := Value.ref es) (C := RX4) (T := TX4) (N := 8) hx hb hts inX4 hown hK hP 3 rfl rfl 4 (by decide) (hts _ (gw kw_45 rfl)) (fun _ h9 => h9) rfl dX11_chanceCarried_34 ?_
        refine lv_iconst (v := 1) hx hb dX11_chanceCarried_37 (by decide) ?_
        have h_4 : vp_in 1 5 := by unfold vp_in; decide
        refine va_iald hx hb hK hP 1 0 rfl rfl h_4 dX11_chanceCarried_38 ?_
        refine lv_topi (fun x_5 e_5 => ?_)
        have h9 : x_5 = (nI (S5 1)) := by rw [e_5]; exact hev.2.1 1 (by omega)
        subst h9
        refine lv_iload hx hb dX11_chanceCarried_39 (lv_at hl 3 rfl) ?_
        refine lv_iload_n hx hb dX11_chanceCarried_41 rfl (lv_at hl 1 rfl) ?_
        have hpd9 := pdf_N (cx := []) hP hD hS hA [] (by decide) rfl
        have hPc := hpd9.1
        have hDc := hpd9.2.1
        have hFc := hpd9.2.2
        clear hpd9
        refine va_calli (va_runS (As := [Value.int (nI (S5 1)), Value.int (nI k), Value.int (nI (sumr W0 sn (n - sn)))]) (rest := []) ⟨hx, hb, hml, hown, hts⟩ (c_X11_isEnough l dC dI aC H.size (nI (S5 1)) k (sumr W0 sn (n - sn)) (by omega) (by omega)) ⟨(callB_of 3 hts (gG kw_469) rfl rfl rfl (hts _ (gw kw_1 rfl)) (hts _ (gw kw_666 rfl)) hd_X11_isEnough ⟨Nat.le_of_ble_eq_true rfl, Nat.le_of_ble_eq_true rfl⟩), (hts _ (gw kw_468 rfl))⟩ ⟨fb_std, pre_std hPc hK hDc hN⟩ rfl rfl hl.1 rfl (lv_room (Nat.le_of_ble_eq_true rfl)) dX11_chanceCarried_42 ⟨Nat.le_of_ble_eq_true rfl, Nat.le_of_ble_eq_true rfl⟩) hS (fun q _ h => hFc q h) hFc (fun x_6 u9 t9 H1 locs ht hvm hw_6 hB hz1 hk1 hS => ?_)
        obtain ⟨hP1, hK1, hD1⟩ := hB
        rw [ht] at hP1
        clear hK1
        try dsimp only at hw_6
        have hpd9 : PDx (dC, dI) classes A H1 [oX11 h0 xp xtp xn xt xk xl xc xo xto xr xch ts ik st, cI aC es 5 stf, cL aC xch 73 chf, oX4 xn ek ef ew ep es (nI n) (nI sn) dn, cI aC ew 8 wf] := jn_N (wr := [oX11 h0 xp xtp xn xt xk xl xc xo xto xr xch ts ik st, cI aC es 5 stf, cL aC xch 73 chf, oX4 xn ek ef ew ep es (nI n) (nI sn) dn, cI aC ew 8 wf]) hFc hk1 hP1 hD1 hP hD [] [0, 1, 2, 3, 4] rfl rfl (by decide) (by decide)
        have hP := hpd9.1
        have hD := hpd9.2
        clear hpd9
        generalize H1 = H at hP hS ⊢
        clear hPc hDc hFc hz1 hk1 hP1 hD1 ht hvm
        have hz_42 := hw_6
        refine lv_if_eq (tgt := 58) hx hb dX11_chanceCarried_45 (by decide) (fun c_7 => ?_) (fun c_7 => ?_)
        · have hen : ¬ nd (nI (S5 1)) (sumr W0 sn (n - sn)) ≤ k := fun q => absurd (hz_42.symm.trans c_7) (by rw [if_pos q]; decide)
          have hck : lI (sumr (fun w => if nd (nI (S5 1)) (sumr W0 sn (n - sn)) ≤ w then Dp w else 0) 0 k) = lI (sumr (fun w => if nd (nI (S5 1)) (sumr W0 sn (n - sn)) ≤ w then Dp w else 0) 0 (k + 1)) := by congr 1; show _ = sumr _ 0 k + (if nd (nI (S5 1)) (sumr W0 sn (n - sn)) ≤ 0 + k then Dp (0 + k) else 0); rw [Nat.zero_add, if_neg hen, Nat.add_zero]
          have hl : lv_has ls 5 [(0, Value.ref h0), (1, Value.int (nI (sumr W0 sn (n - sn)))), (2, Value.long (lI (sumr (fun w => if nd (nI (S5 1)) (sumr W0 sn (n - sn)) ≤ w then Dp w else 0) 0 (k + 1)))), (4, Value.int (nI k))] := by rw [← hck]; exact hl
          obtain ⟨x_8, e_8⟩ : ∃ y : Int32, y = (nI k) + 1 := ⟨_, rfl⟩
          refine lv_iinc (v := x_8) (lv' := [(4, Value.int x_8), (0, Value.ref h0), (1, Value.int (nI (sumr W0 sn (n - sn)))), (2, Value.long (lI (sumr (fun w => if nd (nI (S5 1)) (sumr W0 sn (n - sn)) ≤ w then Dp w else 0) 0 (k + 1))))]) hx hb dX11_chanceCarried_58 hl (k := 3) rfl (by rw [e_8]; rfl) (by decide) rfl (fun ls hl => ?_)
          have h9 : x_8 = nI (k + 1) := by rw [e_8, nI_1]
          subst h9
          refine lv_goto (tgt := 20) hx hb dX11_chanceCarried_61 (by decide) ?_
          exact ih_20 (k + 1) (by omega) (by omega) _ _ _ (hP.sub [0, 1, 2, 3, 4] rfl) (hD.sub [0, 1, 2, 3, 4] (by decide) rfl) hS (lv_sub hl [1, 2, 3, 0] rfl)
        · have hen : nd (nI (S5 1)) (sumr W0 sn (n - sn)) ≤ k := by
            by_cases q : nd (nI (S5 1)) (sumr W0 sn (n - sn)) ≤ k
            · exact q
            · exact absurd (by rw [hz_42, if_neg q]) c_7
          refine lv_lload_n hx hb dX11_chanceCarried_48 rfl (lv_at hl 2 rfl) ?_
          refine lv_aload_n hx hb dX11_chanceCarried_49 rfl (lv_at hl 0 rfl) ?_
          refine va_get (D := (dC, dI)) (ci := 11) (v := Value.ref xch) (C := RX11) (T := TX11) (N := 14) hx hb hts inX11 hown hK hP 0 rfl rfl 10 (by decide) (hts _ (gw kw_236 rfl)) (fun _ h9 => h9) rfl dX11_chanceCarried_50 ?_
          refine lv_iload hx hb dX11_chanceCarried_53 (lv_at hl 3 rfl) ?_
          have h_9 : vp_in (nI k) 73 := vp_in_nI (by omega) (by omega)
          refine va_lald hx hb hK hP 2 2 rfl rfl h_9 dX11_chanceCarried_55 ?_
          refine lv_topl (fun x_10 e_10 => ?_)
          have h9 : x_10 = lI (Dp k) := by rw [e_10, nI_clamp (by omega)]; exact hch k hlt
          subst h9
          refine lv_ladd hx hb dX11_chanceCarried_56 ?_
          refine lv_topl (fun x_11 e_11 => ?_)
          have h9 : x_11 = lI (sumr (fun w => if nd (nI (S5 1)) (sumr W0 sn (n - sn)) ≤ w then Dp w else 0) 0 (k + 1)) := by rw [e_11, lI_add]; congr 1; show _ = sumr _ 0 k + (if nd (nI (S5 1)) (sumr W0 sn (n - sn)) ≤ 0 + k then Dp (0 + k) else 0); rw [Nat.zero_add, if_pos hen]
          subst h9
          refine lv_lstore_n (lv' := [(2, Value.long (lI (sumr (fun w => if nd (nI (S5 1)) (sumr W0 sn (n - sn)) ≤ w then Dp w else 0) 0 (k + 1)))), (0, Value.ref h0), (1, Value.int (nI (sumr W0 sn (n - sn)))), (4, Value.int (nI k))]) hx hb dX11_chanceCarried_57 rfl hl (by decide) rfl (fun ls hl => ?_)
          obtain ⟨x_12, e_12⟩ : ∃ y : Int32, y = (nI k) + 1 := ⟨_, rfl⟩
          refine lv_iinc (v := x_12) (lv' := [(4, Value.int x_12), (2, Value.long (lI (sumr (fun w => if nd (nI (S5 1)) (sumr W0 sn (n - sn)) ≤ w then Dp w else 0) 0 (k + 1)))), (0, Value.ref h0), (1, Value.int (nI (sumr W0 sn (n - sn))))]) hx hb dX11_chanceCarried_58 hl (k := 3) rfl (by rw [e_12]; rfl) (by decide) rfl (fun ls hl => ?_)
          have h9 : x_12 = nI (k + 1) := by rw [e_12, nI_1]
          subst h9
          refine lv_goto (tgt := 20) hx hb dX11_chanceCarried_61 (by decide) ?_
          exact ih_20 (k + 1) (by omega) (by omega) _ _ _ (hP.sub [0, 1, 2, 3, 4] rfl) (hD.sub [0, 1, 2, 3, 4] (by decide) rfl) hS (lv_sub hl [2, 3, 1, 0] rfl)
  exact lp_20 ((73 - 0) + 1) 0 (Nat.lt_succ_self _) (by omega) _ _ _ (hP.sub [0, 1, 2, 3, 4] rfl) (hD.sub [0, 1, 2, 3, 4] (by decide) rfl) hS (lv_sub hl [3, 2, 1, 0] rfl)

set_option maxHeartbeats 1000000 in
set_option maxRecDepth 100000 in
/-- X11_commonDivisor -/
theorem c_X11_commonDivisor (l : Launch) (dC : Nat → ClassId) (dI : Nat → Nat → Nat) (aC : Nat → ClassId) (sz : Nat) (a : Nat) (b : Nat) (hab : a * b < 2 ^ 99) (hax : a < 2 ^ 63 ∧ b < 2 ^ 63) : Met l yX11_commonDivisor (wW yX11_commonDivisor cX11_commonDivisor 11 (some .long)) ({ frames := 0, cells := 0, slots := 0, locals := 0 } : Room) (va_Pc [Value.long (lI a), Value.long (lI b)] (fun U => U.heap.size = sz ∧ va_P (dC, dI) classes [] U.heap ∧ va_K (dC, dI) classes (TY aC) U ∧ va_D (fun _ => True) [] ∧ NX U)) (va_Ql (fun (r : Int64) (_ : Unit) => r = lI (Nat.gcd a b)) (fun (_ : Unit) (t : State) => va_P (dC, dI) classes [] t.heap ∧ va_K (dC, dI) classes (TY aC) t ∧ va_D (va_A [] sz) []) (va_A [] sz)) 0 0 (va_A [] sz) := by
  refine Met.ofW (cc := cX11_commonDivisor) (maxL := 11) (ret := (some .long)) (by decide) rfl ?_
  intro p e s m args below meth c s₁ B hml hv
  obtain ⟨rfl, hsz, hP, hK, hD0, hN⟩ := hv
  have hx := B.exec
  have hb := B.bytes
  have hr := B.returns
  have hts0 := atoms_spec (ws := (wW yX11_commonDivisor cX11_commonDivisor 11 (some .long))) B.pre
  have hts : ∀ w9 ∈ lw_G, w9.before ([Value.long (lI a), Value.long (lI b)] : List Value).toArray s = true := fun w9 h9 => hts0 w9 (List.mem_cons_of_mem _ h9)
  have hown : s.vm.findClass RX11 = some m.cls := findClass_of_methodNamed (x := yX11_commonDivisor) B.named
  have hlocks := B.notSynchronized
  subst hsz
  have hD := hD0.self (sz := s.heap.size)
  generalize hAe : va_A [] s.heap.size = A at hD ⊢
  have hA : ∀ q : Nat, s.heap.size ≤ q → A q := fun q h => by rw [← hAe]; exact Or.inr h
  obtain ⟨H, hHe⟩ : ∃ H : Heap, H = s.heap := ⟨_, rfl⟩
  have hS : va_S A s.heap H [] := by rw [hHe]; exact va_S.rf
  have hP : va_P (dC, dI) classes [] H := by rw [hHe]; exact hP
  have hl := lv_entry ([Value.long (lI a), Value.long (lI b)]) (n := 11) (Nat.le_of_ble_eq_true rfl)
  rw [lg_entry_eq]
  generalize (lg_sl ([Value.long (lI a), Value.long (lI b)]) ++ List.replicate (11 - (lg_sl ([Value.long (lI a), Value.long (lI b)])).length) Slot.unset).toArray = ls at hl ⊢
  have hl : lv_has ls 11 [(0, Value.long (lI a)), (2, Value.long (lI b))] := hl
  rw [← hHe]
  refine lv_lload_n hx hb dX11_commonDivisor_0 rfl (lv_at hl 0 rfl) ?_
  refine lv_lstore (lv' := [(4, Value.long (lI a)), (0, Value.long (lI a)), (2, Value.long (lI b))]) hx hb dX11_commonDivisor_1 hl (by decide) rfl (fun ls hl => ?_)
  refine lv_lload_n hx hb dX11_commonDivisor_3 rfl (lv_at hl 2 rfl) ?_
  refine lv_lstore (lv' := [(6, Value.long (lI b)), (4, Value.long (lI a)), (0, Value.long (lI a)), (2, Value.long (lI b))]) hx hb dX11_commonDivisor_4 hl (by decide) rfl (fun ls hl => ?_)
  refine lv_iconst (v := 0) hx hb dX11_commonDivisor_6 (by decide) ?_
  refine lv_istore (lv' := [(8, Value.int 0), (6, Value.long (lI b)), (4, Value.long (lI a)), (0, Value.long (lI a)), (2, Value.long (lI b))]) hx hb dX11_commonDivisor_7 hl (by decide) rfl (fun ls hl => ?_)
  have lp_9 : ∀ (fu : Nat) (k : Nat) (x : Nat) (y : Nat) (hfu : 100 - k < fu) (hk : k ≤ 100) (hxy : x < 2 ^ 63 ∧ y < 2 ^ 63) (hg : Nat.gcd x y = Nat.gcd a b) (h00 : k = 0 → x * y = a * b) (hm : x * y * 2 ^ k ≤ 2 * (a * b)) (hyx : k = 0 ∨ y ≤ x) (H : Heap) (locs : List Loc) (ls : Array Slot), va_P (dC, dI) classes [] H → va_D A [] → va_S A s.heap H locs → lv_has ls 11 [(0, Value.long (lI a)), (2, Value.long (lI b)), (4, Value.long (lI x)), (6, Value.long (lI y)), (8, Value.int (nI k))] → W p l e (headSpec (wW yX11_commonDivisor cX11_commonDivisor 11 (some .long)) ({ frames := 0, cells := 0, slots := 0, locals := 0 } : Room)).room s m ([Value.long (lI a), Value.long (lI b)] : List Value).toArray below meth c H locs 0 0 (MQ below (va_Ql (fun (r : Int64) (_ : Unit) => r = lI (Nat.gcd a b)) (fun (_ : Unit) (t : State) => va_P (dC, dI) classes [] t.heap ∧ va_K (dC, dI) classes (TY aC) t ∧ va_D A []) A) ([Value.long (lI a), Value.long (lI b)] : List Value).toArray s 0 0 A) (F0 m 9 ls []) := by
    intro fu
    induction fu with
    | zero => intro k x y hfu; exact absurd hfu (Nat.not_lt_zero _)
    | succ fu ih_9 =>
      intro k x y hfu hk hxy hg h00 hm hyx H locs ls hP hD hS hl
      refine lv_iload hx hb dX11_commonDivisor_9 (lv_at hl 4 rfl) ?_
      refine lv_bipush (v := 100) hx hb dX11_commonDivisor_11 (by decide) ?_
      refine lv_icmp_ge (tgt := 44) hx hb dX11_commonDivisor_13 (by decide) (fun c_1 => ?_) (fun c_1 => ?_)
      · have hk1 : k = 100 := by
          rcases Nat.lt_or_ge k 100 with q | q
          · exact absurd c_1 (nI_ge (b := 100) q (by omega))
          · omega
        have hy0 : y = 0 := by
          rcases Nat.eq_zero_or_pos y with q | q
          · exact q
          · rw [hk1] at hm
            exact (eu_e (show 0 < x by omega) q hab hm).elim
        refine lv_lload hx hb dX11_commonDivisor_44 (lv_at hl 2 rfl) ?_
        have hpd9 := pd_N (cx := []) hP hD [] (by decide) rfl
        have hP9 := hpd9.1
        have hD9 := hpd9.2
        refine W.widen (k := 0) (n := 0) (by omega) (by omega) ?_
        exact W.lret (v := lI x) hx hb hr (fun t ht hW => ⟨⟨(lI x), (), rfl, by rw [← hg, hy0, Nat.gcd_zero_right], by rw [ht]; exact hP9, va_K.moved hW.alike hK, hD9⟩, hS.F ht⟩) hS.2.2 dX11_commonDivisor_46
      · have hlt : k < 100 := by
          rcases Nat.lt_or_ge k 100 with q | q
          · exact q
          · exact absurd (nI_le (a := 100) q (by omega)) c_1
        refine lv_lload hx hb dX11_commonDivisor_16 (lv_at hl 3 rfl) ?_
        refine lv_lconst (v := 0) hx hb dX11_commonDivisor_18 (by decide) ?_
        refine W.lcmp hx hb dX11_commonDivisor_19 ?_
        refine lv_topi (fun x_2 e_2 => ?_)
        refine lv_if_eq (tgt := 44) hx hb dX11_commonDivisor_20 (by decide) (fun c_3 => ?_) (fun c_3 => ?_)
        · have hy0 : y = 0 := (lI_eq hxy.2 (b := 0) (by omega)).mp (lc_0 (x := lI y) (y := lI 0) (by have h7 := c_3; rw [e_2] at h7; exact h7))
          refine lv_lload hx hb dX11_commonDivisor_44 (lv_at hl 2 rfl) ?_
          have hpd9 := pd_N (cx := []) hP hD [] (by decide) rfl
          have hP9 := hpd9.1
          have hD9 := hpd9.2
          refine W.widen (k := 0) (n := 0) (by omega) (by omega) ?_
          exact W.lret (v := lI x) hx hb hr (fun t ht hW => ⟨⟨(lI x), (), rfl, by rw [← hg, hy0, Nat.gcd_zero_right], by rw [ht]; exact hP9, va_K.moved hW.alike hK, hD9⟩, hS.F ht⟩) hS.2.2 dX11_commonDivisor_46
        · have hy0 : 0 < y := Nat.pos_of_ne_zero fun q => lc_ne (by rw [← e_2]; exact c_3) (by rw [q]; rfl)
          refine lv_lload hx hb dX11_commonDivisor_23 (lv_at hl 2 rfl) ?_
          refine lv_lload hx hb dX11_commonDivisor_25 (lv_at hl 3 rfl) ?_
          refine lv_lrem hx hb dX11_commonDivisor_27 (fun q => by have := (lI_eq hxy.2 (b := 0) (by omega)).mp q; omega) ?_
          refine lv_topl (fun x_4 e_4 => ?_)
          have h9 : x_4 = lI (x % y) := by rw [e_4]; exact lI_rem hxy.1 hy0 hxy.2
          subst h9
          refine lv_lstore (lv' := [(9, Value.long (lI (x % y))), (0, Value.long (lI a)), (2, Value.long (lI b)), (4, Value.long (lI x)), (6, Value.long (lI y)), (8, Value.int (nI k))]) hx hb dX11_commonDivisor_28 hl (by decide) rfl (fun ls hl => ?_)
          refine lv_lload hx hb dX11_commonDivisor_30 (lv_at hl 4 rfl) ?_
          refine lv_lstore (lv' := [(4, Value.long (lI y)), (9, Value.long (lI (x % y))), (0, Value.long (lI a)), (2, Value.long (lI b)), (6, Value.long (lI y)), (8, Value.int (nI k))]) hx hb dX11_commonDivisor_32 hl (by decide) rfl (fun ls hl => ?_)
          refine lv_lload hx hb dX11_commonDivisor_34 (lv_at hl 1 rfl) ?_
          refine lv_lstore (lv' := [(6, Value.long (lI (x % y))), (4, Value.long (lI y)), (9, Value.long (lI (x % y))), (0, Value.long (lI a)), (2, Value.long (lI b)), (8, Value.int (nI k))]) hx hb dX11_commonDivisor_36 hl (by decide) rfl (fun ls hl => ?_)
          obtain ⟨x_5, e_5⟩ : ∃ y : Int32, y = (nI k) + 1 := ⟨_, rfl⟩
          refine lv_iinc (v := x_5) (lv' := [(8, Value.int x_5), (6, Value.long (lI (x % y))), (4, Value.long (lI y)), (9, Value.long (lI (x % y))), (0, Value.long (lI a)), (2, Value.long (lI b))]) hx hb dX11_commonDivisor_38 hl (k := 5) rfl (by rw [e_5]; rfl) (by decide) rfl (fun ls hl => ?_)
          have h9 : x_5 = nI (k + 1) := by rw [e_5, nI_1]
          subst h9
          refine lv_goto (tgt := 9) hx hb dX11_commonDivisor_41 (by decide) ?_
          exact ih_9 (k + 1) y (x % y) (by omega) (by omega) (⟨hxy.2, Nat.lt_trans (Nat.mod_lt x hy0) hxy.2⟩) ((Nat.gcd_comm y (x % y)).trans ((Nat.gcd_rec y x).symm.trans ((Nat.gcd_comm y x).trans hg))) (fun q => by omega) (eu_s hy0 hyx hm h00) (Or.inr (Nat.le_of_lt (Nat.mod_lt x hy0))) _ _ _ (hP.sub [] rfl) (hD.sub [] (by decide) rfl) hS (lv_sub hl [4, 5, 2, 1, 0] rfl)
  exact lp_9 ((100 - 0) + 1) 0 a b (Nat.lt_succ_self _) (by omega) (hax) (rfl) (fun _ => rfl) (by rw [Nat.pow_zero, Nat.mul_one]; omega) (Or.inl rfl) _ _ _ (hP.sub [] rfl) (hD.sub [] (by decide) rfl) hS (lv_sub hl [3, 4, 2, 1, 0] rfl)

set_option maxHeartbeats 1000000 in
set_option maxRecDepth 100000 in
/-- X11_shaken -/
theorem c_X11_shaken (l : Launch) (dC : Nat → ClassId) (dI : Nat → Nat → Nat) (aC : Nat → ClassId) (sz : Nat) (h0 : Nat) (xp : Nat) (xtp : Nat) (xn : Nat) (xt : Nat) (xk : Nat) (xl : Nat) (xc : Nat) (xo : Nat) (xto : Nat) (xr : Nat) (xch : Nat) (ts : Int32) (ik : Int32) (st : Int32) (po : Nat) (pp : Nat) (ps : Nat) (pa : Nat) (pe : Nat) (pb : Nat) (pk : Nat) (pu : Nat) (pw : Nat) (pq : Nat) (pt : Nat) (un : Int32) (fw : Int32) (ek : Nat) (ef : Nat) (ew : Nat) (ep : Nat) (es : Nat) (n : Nat) (sn : Nat) (dn : Int32) (kf : Nat → Int32) (ff : Nat → Int32) (wf : Nat → Int32) (stf : Nat → Int32) (K : Nat → Nat) (F : Nat → Nat) (W0 : Nat → Nat) (S5 : Nat → Nat) (L : List Nat) (g : Nat → Nat → Int32) (fo : Nat → Option Nat) (fp : Nat → Option Nat) (fs : Nat → Option Nat) (ro : Nat → Nat) (rp : Nat → Nat) (rs : Nat → Nat) (fk : Nat → Option Nat) (k0 : Nat) (k1 : Nat) (k2 : Nat) (k3 : Nat) (k4 : Nat) (k5 : Nat) (k6 : Nat) (uf : Nat → Int32) (vf : Nat → Int32) (qf : Nat → Int32) (tf : Nat → Int32) (bf : Nat → Int32) (yf : Nat → Int32) (ef0 : Nat → Int32) (rf : Nat → Int32) (chf : Nat → Int64) (a1 : Int32) (hgr : GRD L fo fp fs ro rp rs) (hev : EVS n sn dn K F W0 S5 kf ff wf stf) (hkd : KDS fk k0 k1 k2 k3 k4 k5 k6) (hst : STL st n (PO n K F W0 S5) ro rp rs g yf ef0 bf) : Met l yX11_shaken (wW yX11_shaken cX11_shaken 8 (some .long)) ({ frames := 7, cells := 0, slots := 0, locals := 151 } : Room) (va_Pc [Value.ref h0, Value.int a1] (fun U => U.heap.size = sz ∧ va_P (dC, dI) classes (wp [oX11 h0 xp xtp xn xt xk xl xc xo xto xr xch ts ik st, oX9 xp po pp ps pa pe pb xn pk pu pw pq pt un fw, oX4 xn ek ef ew ep es (nI n) (nI sn) dn, cI aC ek 8 kf, cI aC ef 8 ff, cI aC ew 8 wf, cI aC es 5 stf, cA aC po 8 fo, cA aC pp 8 fp, cA aC ps 8 fs, cK aC pk 7 fk, cO k0 0 [], cO k1 1 [], cO k2 3 [], cO k3 5 [], cO k4 6 [], cO k5 10 [], cO k6 8 [], cI aC pa 8 yf, cI aC pe 8 ef0, cI aC pb 8 bf, cI aC pu 7 uf, cI aC pw 7 vf, cI aC pq 128 qf, cI aC pt 128 tf, cI aC xr 7 rf, cL aC xch 73 chf] (va_pl L (plE aC g))) U.heap ∧ va_K (dC, dI) classes (TY aC) U ∧ va_D (fun _ => True) (wp [oX11 h0 xp xtp xn xt xk xl xc xo xto xr xch ts ik st, oX9 xp po pp ps pa pe pb xn pk pu pw pq pt un fw, oX4 xn ek ef ew ep es (nI n) (nI sn) dn, cI aC ek 8 kf, cI aC ef 8 ff, cI aC ew 8 wf, cI aC es 5 stf, cA aC po 8 fo, cA aC pp 8 fp, cA aC ps 8 fs, cK aC pk 7 fk, cO k0 0 [], cO k1 1 [], cO k2 3 [], cO k3 5 [], cO k4 6 [], cO k5 10 [], cO k6 8 [], cI aC pa 8 yf, cI aC pe 8 ef0, cI aC pb 8 bf, cI aC pu 7 uf, cI aC pw 7 vf, cI aC pq 128 qf, cI aC pt 128 tf, cI aC xr 7 rf, cL aC xch 73 chf] (va_pl L (plE aC g))) ∧ NX U)) (va_Ql (fun (r : Int64) (u : Int32 × Int32 × (Nat → Int32) × (Nat → Int32) × (Nat → Int32) × (Nat → Int32) × (Nat → Int32) × (Nat → Int32) × (Nat → Int32) × (Nat → Nat → Int32) × Int32 × (Nat → Int32) × (Nat → Int64)) => match u with | (un2, fw2, ug, vg, qg, tg, bg, yg, eg, g2, st2, rf2, chg) => STL st2 n (PO n K F W0 S5) ro rp rs g2 yg eg bg ∧ (∀ a, OFF ro rp rs a → g2 a = g a) ∧ r = rShk n sn dn K F W0 S5 a1) (fun (u : Int32 × Int32 × (Nat → Int32) × (Nat → Int32) × (Nat → Int32) × (Nat → Int32) × (Nat → Int32) × (Nat → Int32) × (Nat → Int32) × (Nat → Nat → Int32) × Int32 × (Nat → Int32) × (Nat → Int64)) (t : State) => match u with | (un2, fw2, ug, vg, qg, tg, bg, yg, eg, g2, st2, rf2, chg) => va_P (dC, dI) classes (wp [oX11 h0 xp xtp xn xt xk xl xc xo xto xr xch ts ik st2, oX9 xp po pp ps pa pe pb xn pk pu pw pq pt un2 fw2, oX4 xn ek ef ew ep es (nI n) (nI sn) dn, cI aC ek 8 kf, cI aC ef 8 ff, cI aC ew 8 wf, cI aC es 5 stf, cA aC po 8 fo, cA aC pp 8 fp, cA aC ps 8 fs, cK aC pk 7 fk, cO k0 0 [], cO k1 1 [], cO k2 3 [], cO k3 5 [], cO k4 6 [], cO k5 10 [], cO k6 8 [], cI aC pa 8 yg, cI aC pe 8 eg, cI aC pb 8 bg, cI aC pu 7 ug, cI aC pw 7 vg, cI aC pq 128 qg, cI aC pt 128 tg, cI aC xr 7 rf2, cL aC xch 73 chg] (va_pl L (plE aC g2))) t.heap ∧ va_K (dC, dI) classes (TY aC) t ∧ va_D (va_A (wp [oX11 h0 xp xtp xn xt xk xl xc xo xto xr xch ts ik st, oX9 xp po pp ps pa pe pb xn pk pu pw pq pt un fw, oX4 xn ek ef ew ep es (nI n) (nI sn) dn, cI aC ek 8 kf, cI aC ef 8 ff, cI aC ew 8 wf, cI aC es 5 stf, cA aC po 8 fo, cA aC pp 8 fp, cA aC ps 8 fs, cK aC pk 7 fk, cO k0 0 [], cO k1 1 [], cO k2 3 [], cO k3 5 [], cO k4 6 [], cO k5 10 [], cO k6 8 [], cI aC pa 8 yf, cI aC pe 8 ef0, cI aC pb 8 bf, cI aC pu 7 uf, cI aC pw 7 vf, cI aC pq 128 qf, cI aC pt 128 tf, cI aC xr 7 rf, cL aC xch 73 chf] (va_pl L (plE aC g))) sz) (wp [oX11 h0 xp xtp xn xt xk xl xc xo xto xr xch ts ik st2, oX9 xp po pp ps pa pe pb xn pk pu pw pq pt un2 fw2, oX4 xn ek ef ew ep es (nI n) (nI sn) dn, cI aC ek 8 kf, cI aC ef 8 ff, cI aC ew 8 wf, cI aC es 5 stf, cA aC po 8 fo, cA aC pp 8 fp, cA aC ps 8 fs, cK aC pk 7 fk, cO k0 0 [], cO k1 1 [], cO k2 3 [], cO k3 5 [], cO k4 6 [], cO k5 10 [], cO k6 8 [], cI aC pa 8 yg, cI aC pe 8 eg, cI aC pb 8 bg, cI aC pu 7 ug, cI aC pw 7 vg, cI aC pq 128 qg, cI aC pt 128 tg, cI aC xr 7 rf2, cL aC xch 73 chg] (va_pl L (plE aC g2)))) (va_A (wp [oX11 h0 xp xtp xn xt xk xl xc xo xto xr xch ts ik st, oX9 xp po pp ps pa pe pb xn pk pu pw pq pt un fw, oX4 xn ek ef ew ep es (nI n) (nI sn) dn, cI aC ek 8 kf, cI aC ef 8 ff, cI aC ew 8 wf, cI aC es 5 stf, cA aC po 8 fo, cA aC pp 8 fp, cA aC ps 8 fs, cK aC pk 7 fk, cO k0 0 [], cO k1 1 [], cO k2 3 [], cO k3 5 [], cO k4 6 [], cO k5 10 [], cO k6 8 [], cI aC pa 8 yf, cI aC pe 8 ef0, cI aC pb 8 bf, cI aC pu 7 uf, cI aC pw 7 vf, cI aC pq 128 qf, cI aC pt 128 tf, cI aC xr 7 rf, cL aC xch 73 chf] (va_pl L (plE aC g))) sz)) 0 0 (va_A (wp [oX11 h0 xp xtp xn xt xk xl xc xo xto xr xch ts ik st, oX9 xp po pp ps pa pe pb xn pk pu pw pq pt un fw, oX4 xn ek ef ew ep es (nI n) (nI sn) dn, cI aC ek 8 kf, cI aC ef 8 ff, cI aC ew 8 wf, cI aC es 5 stf, cA aC po 8 fo, cA aC pp 8 fp, cA aC ps 8 fs, cK aC pk 7 fk, cO k0 0 [], cO k1 1 [], cO k2 3 [], cO k3 5 [], cO k4 6 [], cO k5 10 [], cO k6 8 [], cI aC pa 8 yf, cI aC pe 8 ef0, cI aC pb 8 bf, cI aC pu 7 uf, cI aC pw 7 vf, cI aC pq 128 qf, cI aC pt 128 tf, cI aC xr 7 rf, cL aC xch 73 chf] (va_pl L (plE aC g))) sz) := by
  refine Met.ofW (cc := cX11_shaken) (maxL := 8) (ret := (some .long)) (by decide) rfl ?_
  intro p e s m args below meth c s₁ B hml hv
  obtain ⟨rfl, hsz, hP, hK, hD0, hN⟩ := hv
  have hx := B.exec
  have hb := B.bytes
  have hr := B.returns
  have hts0 := atoms_spec (ws := (wW yX11_shaken cX11_shaken 8 (some .long))) B.pre
  have hts : ∀ w9 ∈ lw_G, w9.before ([Value.ref h0, Value.int a1] : List Value).toArray s = true := fun w9 h9 => hts0 w9 (List.mem_cons_of_mem _ h9)
  have hown : s.vm.findClass RX11 = some m.cls := findClass_of_methodNamed (x := yX11_shaken) B.named
  have hlocks := B.notSynchronized
  subst hsz
  have hD := hD0.self (sz := s.heap.size)
  generalize hAe : va_A (wp [oX11 h0 xp xtp xn xt xk xl xc xo xto xr xch ts ik st, oX9 xp po pp ps pa pe pb xn pk pu pw pq pt un fw, oX4 xn ek ef ew ep es (nI n) (nI sn) dn, cI aC ek 8 kf, cI aC ef 8 ff, cI aC ew 8 wf, cI aC es 5 stf, cA aC po 8 fo, cA aC pp 8 fp, cA aC ps 8 fs, cK aC pk 7 fk, cO k0 0 [], cO k1 1 [], cO k2 3 [], cO k3 5 [], cO k4 6 [], cO k5 10 [], cO k6 8 [], cI aC pa 8 yf, cI aC pe 8 ef0, cI aC pb 8 bf, cI aC pu 7 uf, cI aC pw 7 vf, cI aC pq 128 qf, cI aC pt 128 tf, cI aC xr 7 rf, cL aC xch 73 chf] (va_pl L (plE aC g))) s.heap.size = A at hD ⊢
  have hA : ∀ q : Nat, s.heap.size ≤ q → A q := fun q h => by rw [← hAe]; exact Or.inr h
  obtain ⟨H, hHe⟩ : ∃ H : Heap, H = s.heap := ⟨_, rfl⟩
  have hS : va_S A s.heap H [] := by rw [hHe]; exact va_S.rf
  have hP : va_P (dC, dI) classes (wp [oX11 h0 xp xtp xn xt xk xl xc xo xto xr xch ts ik st, oX9 xp po pp ps pa pe pb xn pk pu pw pq pt un fw, oX4 xn ek ef ew ep es (nI n) (nI sn) dn, cI aC ek 8 kf, cI aC ef 8 ff, cI aC ew 8 wf, cI aC es 5 stf, cA aC po 8 fo, cA aC pp 8 fp, cA aC ps 8 fs, cK aC pk 7 fk, cO k0 0 [], cO k1 1 [], cO k2 3 [], cO k3 5 [], cO k4 6 [], cO k5 10 [], cO k6 8 [], cI aC pa 8 yf, cI aC pe 8 ef0, cI aC pb 8 bf, cI aC pu 7 uf, cI aC pw 7 vf, cI aC pq 128 qf, cI aC pt 128 tf, cI aC xr 7 rf, cL aC xch 73 chf] (va_pl L (plE aC g))) H := by rw [hHe]; exact hP
  have hl := lv_entry ([Value.ref h0, Value.int a1]) (n := 8) (Nat.le_of_ble_eq_true rfl)
  rw [lg_entry_eq]
  generalize (lg_sl ([Value.ref h0, Value.int a1]) ++ List.replicate (8 - (lg_sl ([Value.ref h0, Value.int a1])).length) Slot.unset).toArray = ls at hl ⊢
  have hl : lv_has ls 8 [(0, Value.ref h0), (1, Value.int a1)] := hl
  rw [← hHe]
  have hn8 := EVS_n hev
  have h54 := hev.2.2.1.2.2.2
  refine lv_iload_n hx hb dX11_shaken_0 rfl (lv_at hl 1 rfl) ?_
  refine lv_if_lt (tgt := 9) hx hb dX11_shaken_1 (by decide) (fun c_1 => ?_) (fun c_1 => ?_)
  · refine lv_ldc2 hx hb hown (hts _ (gw kw_648 rfl)) dX11_shaken_9 ?_
    refine lv_aload_n hx hb dX11_shaken_12 rfl (lv_at hl 0 rfl) ?_
    refine lv_bipush (v := -2) hx hb dX11_shaken_13 (by decide) ?_
    have hpd9 := pdf_N (cx := [oX11 h0 xp xtp xn xt xk xl xc xo xto xr xch ts ik st, cI aC xr 7 rf]) hP hD hS hA [0, 25] (by decide) rfl
    have hPc := hpd9.1
    have hDc := hpd9.2.1
    have hFc := hpd9.2.2
    clear hpd9
    refine va_calli (va_runV (As := [Value.int (-2)]) (rest := [Value.long 4000000000000000000]) ⟨hx, hb, hml, hown, hts⟩ (c_X11_refuse l dC dI aC H.size h0 xp xtp xn xt xk xl xc xo xto xr xch ts ik st (-2) 2 rf (by decide) (by decide) (by decide) (by unfold vp_in; decide)) ⟨(callB_of 1 hts (gG kw_276) rfl rfl rfl (hts _ (gw kw_1 rfl)) (hts _ (gw kw_273 rfl)) hd_X11_refuse ⟨Nat.le_of_ble_eq_true rfl, Nat.le_of_ble_eq_true rfl⟩), (hts _ (gw kw_275 rfl)), (hts _ (gw ks_0 rfl))⟩ ⟨fb_std, va_recv (q := (RX11, TX11, 14)) hK hPc (ci := 11) (q0 := 0) rfl rfl, pre_std hPc hK hDc hN⟩ rfl rfl hl.1 rfl (lv_room (Nat.le_of_ble_eq_true rfl)) dX11_shaken_15 ⟨Nat.le_of_ble_eq_true rfl, Nat.le_of_ble_eq_true rfl⟩) hS (fun q _ h => hFc q h) hFc (fun x_2 u9 t9 H1 locs ht hvm hw_2 hB hz1 hk1 hS => ?_)
    obtain ⟨u_3, rfl⟩ : ∃ z, z = u9 := ⟨_, rfl⟩
    obtain ⟨hP1, hK1, hD1⟩ := hB
    rw [ht] at hP1
    clear hK1
    try dsimp only at hw_2
    have hpd9 : PDx (dC, dI) classes A H1 (wp [oX9 xp po pp ps pa pe pb xn pk pu pw pq pt un fw, oX4 xn ek ef ew ep es (nI n) (nI sn) dn, cI aC ek 8 kf, cI aC ef 8 ff, cI aC ew 8 wf, cI aC es 5 stf, cA aC po 8 fo, cA aC pp 8 fp, cA aC ps 8 fs, cK aC pk 7 fk, cO k0 0 [], cO k1 1 [], cO k2 3 [], cO k3 5 [], cO k4 6 [], cO k5 10 [], cO k6 8 [], cI aC pa 8 yf, cI aC pe 8 ef0, cI aC pb 8 bf, cI aC pu 7 uf, cI aC pw 7 vf, cI aC pq 128 qf, cI aC pt 128 tf, cL aC xch 73 chf, oX11 h0 xp xtp xn xt xk xl xc xo xto xr xch ts ik st, cI aC xr 7 u_3] (va_pl L (plE aC g))) := jn_Q (wr := [oX9 xp po pp ps pa pe pb xn pk pu pw pq pt un fw, oX4 xn ek ef ew ep es (nI n) (nI sn) dn, cI aC ek 8 kf, cI aC ef 8 ff, cI aC ew 8 wf, cI aC es 5 stf, cA aC po 8 fo, cA aC pp 8 fp, cA aC ps 8 fs, cK aC pk 7 fk, cO k0 0 [], cO k1 1 [], cO k2 3 [], cO k3 5 [], cO k4 6 [], cO k5 10 [], cO k6 8 [], cI aC pa 8 yf, cI aC pe 8 ef0, cI aC pb 8 bf, cI aC pu 7 uf, cI aC pw 7 vf, cI aC pq 128 qf, cI aC pt 128 tf, cL aC xch 73 chf]) hFc hk1 hP1 hD1 hP hD [0, 25] [1, 2, 3, 4, 5, 6, 7, 8, 9, 10, 11, 12, 13, 14, 15, 16, 17, 18, 19, 20, 21, 22, 23, 24, 26] rfl rfl (by decide) (by decide)
    have hP := hpd9.1
    have hD := hpd9.2
    clear hpd9
    generalize H1 = H at hP hS ⊢
    clear hPc hDc hFc hz1 hk1 hP1 hD1 ht hvm
    obtain ⟨hv9, -⟩ := hw_2
    refine lv_i2l hx hb dX11_shaken_18 rfl ?_
    refine lv_topl (fun x_4 e_4 => ?_)
    refine lv_lsub hx hb dX11_shaken_19 ?_
    refine lv_topl (fun x_5 e_5 => ?_)
    have hpd9 := pd_P (cx := [oX11 h0 xp xtp xn xt xk xl xc xo xto xr xch ts ik st, oX9 xp po pp ps pa pe pb xn pk pu pw pq pt un fw, oX4 xn ek ef ew ep es (nI n) (nI sn) dn, cI aC ek 8 kf, cI aC ef 8 ff, cI aC ew 8 wf, cI aC es 5 stf, cA aC po 8 fo, cA aC pp 8 fp, cA aC ps 8 fs, cK aC pk 7 fk, cO k0 0 [], cO k1 1 [], cO k2 3 [], cO k3 5 [], cO k4 6 [], cO k5 10 [], cO k6 8 [], cI aC pa 8 yf, cI aC pe 8 ef0, cI aC pb 8 bf, cI aC pu 7 uf, cI aC pw 7 vf, cI aC pq 128 qf, cI aC pt 128 tf, cI aC xr 7 u_3, cL aC xch 73 chf]) hP hD [25, 0, 1, 2, 3, 4, 5, 6, 7, 8, 9, 10, 11, 12, 13, 14, 15, 16, 17, 18, 19, 20, 21, 22, 23, 26, 24] (by decide) rfl
    have hP9 := hpd9.1
    have hD9 := hpd9.2
    refine W.widen (k := 0) (n := 0) (by omega) (by omega) ?_
    exact W.lret (v := x_5) hx hb hr (fun t ht hW => ⟨⟨x_5, (un, fw, uf, vf, qf, tf, bf, yf, ef0, g, st, u_3, chf), rfl, ⟨hst, fun a _ => rfl, by rw [e_5, e_4, hv9]; unfold rShk; rw [if_pos (Or.inl c_1)]; first | done | rfl | decide +kernel⟩, by rw [ht]; exact hP9, va_K.moved hW.alike hK, hD9⟩, hS.F ht⟩) hS.2.2 dX11_shaken_20
  · refine lv_iload_n hx hb dX11_shaken_4 rfl (lv_at hl 1 rfl) ?_
    refine lv_iconst (v := 1) hx hb dX11_shaken_5 (by decide) ?_
    refine lv_icmp_le (tgt := 21) hx hb dX11_shaken_6 (by decide) (fun c_6 => ?_) (fun c_6 => ?_)
    · refine lv_aload_n hx hb dX11_shaken_21 rfl (lv_at hl 0 rfl) ?_
      refine va_get (D := (dC, dI)) (ci := 11) (v := Value.ref xn) (C := RX11) (T := TX11) (N := 14) hx hb hts inX11 hown hK hP 0 rfl rfl 2 (by decide) (hts _ (gw kw_228 rfl)) (fun _ h9 => h9) rfl dX11_shaken_22 ?_
      have hpd9 := pdf_N (cx := [oX4 xn ek ef ew ep es (nI n) (nI sn) dn]) hP hD hS hA [2] (by decide) rfl
      have hPc := hpd9.1
      have hDc := hpd9.2.1
      have hFc := hpd9.2.2
      clear hpd9
      refine va_calli (va_runV (As := []) (rest := []) ⟨hx, hb, hml, hown, hts⟩ (c_X4_isOver l dC dI aC H.size xn ek ef ew ep es (nI n) (nI sn) dn ) ⟨(callB_of 0 hts (gG kw_523) rfl rfl rfl (hts _ (gw kw_2 rfl)) (hts _ (gw kw_520 rfl)) hd_X4_isOver ⟨Nat.le_of_ble_eq_true rfl, Nat.le_of_ble_eq_true rfl⟩), (hts _ (gw kw_521 rfl)), (hts _ (gw kw_522 rfl))⟩ ⟨fb_std, va_recv (q := (RX4, TX4, 8)) hK hPc (ci := 4) (q0 := 0) rfl rfl, pre_std hPc hK hDc hN⟩ rfl rfl hl.1 rfl (lv_room (Nat.le_of_ble_eq_true rfl)) dX11_shaken_25 ⟨Nat.le_of_ble_eq_true rfl, Nat.le_of_ble_eq_true rfl⟩) hS (fun q _ h => hFc q h) hFc (fun x_7 u9 t9 H1 locs ht hvm hw_7 hB hz1 hk1 hS => ?_)
      obtain ⟨hP1, hK1, hD1⟩ := hB
      rw [ht] at hP1
      clear hK1
      try dsimp only at hw_7
      have hpd9 : PDx (dC, dI) classes A H1 (wp [oX11 h0 xp xtp xn xt xk xl xc xo xto xr xch ts ik st, oX9 xp po pp ps pa pe pb xn pk pu pw pq pt un fw, cI aC ek 8 kf, cI aC ef 8 ff, cI aC ew 8 wf, cI aC es 5 stf, cA aC po 8 fo, cA aC pp 8 fp, cA aC ps 8 fs, cK aC pk 7 fk, cO k0 0 [], cO k1 1 [], cO k2 3 [], cO k3 5 [], cO k4 6 [], cO k5 10 [], cO k6 8 [], cI aC pa 8 yf, cI aC pe 8 ef0, cI aC pb 8 bf, cI aC pu 7 uf, cI aC pw 7 vf, cI aC pq 128 qf, cI aC pt 128 tf, cI aC xr 7 rf, cL aC xch 73 chf, oX4 xn ek ef ew ep es (nI n) (nI sn) dn] (va_pl L (plE aC g))) := jn_Q (wr := [oX11 h0 xp xtp xn xt xk xl xc xo xto xr xch ts ik st, oX9 xp po pp ps pa pe pb xn pk pu pw pq pt un fw, cI aC ek 8 kf, cI aC ef 8 ff, cI aC ew 8 wf, cI aC es 5 stf, cA aC po 8 fo, cA aC pp 8 fp, cA aC ps 8 fs, cK aC pk 7 fk, cO k0 0 [], cO k1 1 [], cO k2 3 [], cO k3 5 [], cO k4 6 [], cO k5 10 [], cO k6 8 [], cI aC pa 8 yf, cI aC pe 8 ef0, cI aC pb 8 bf, cI aC pu 7 uf, cI aC pw 7 vf, cI aC pq 128 qf, cI aC pt 128 tf, cI aC xr 7 rf, cL aC xch 73 chf]) hFc hk1 hP1 hD1 hP hD [2] [0, 1, 3, 4, 5, 6, 7, 8, 9, 10, 11, 12, 13, 14, 15, 16, 17, 18, 19, 20, 21, 22, 23, 24, 25, 26] rfl rfl (by decide) (by decide)
      have hP := hpd9.1
      have hD := hpd9.2
      clear hpd9
      generalize H1 = H at hP hS ⊢
      clear hPc hDc hFc hz1 hk1 hP1 hD1 ht hvm
      have hz_25 := hw_7
      refine lv_if_eq (tgt := 43) hx hb dX11_shaken_28 (by decide) (fun c_8 => ?_) (fun c_8 => ?_)
      · have hov := ovx_n hz_25 c_8
        have hsn := sn_lt hev hov
        refine lv_aload_n hx hb dX11_shaken_43 rfl (lv_at hl 0 rfl) ?_
        refine lv_aload_n hx hb dX11_shaken_44 rfl (lv_at hl 0 rfl) ?_
        have hpd9 := pdf_P (cx := [oX11 h0 xp xtp xn xt xk xl xc xo xto xr xch ts ik st, oX9 xp po pp ps pa pe pb xn pk pu pw pq pt un fw, oX4 xn ek ef ew ep es (nI n) (nI sn) dn, cI aC ek 8 kf, cI aC ef 8 ff, cI aC ew 8 wf, cI aC es 5 stf, cA aC po 8 fo, cA aC pp 8 fp, cA aC ps 8 fs, cK aC pk 7 fk, cO k0 0 [], cO k1 1 [], cO k2 3 [], cO k3 5 [], cO k4 6 [], cO k5 10 [], cO k6 8 [], cI aC pa 8 yf, cI aC pe 8 ef0, cI aC pb 8 bf, cI aC pu 7 uf, cI aC pw 7 vf, cI aC pq 128 qf, cI aC pt 128 tf]) hP hD hS hA [0, 1, 26, 2, 3, 4, 5, 6, 7, 8, 9, 10, 11, 12, 13, 14, 15, 16, 17, 18, 19, 20, 21, 22, 23] (by decide) rfl
        have hPc := hpd9.1
        have hDc := hpd9.2.1
        have hFc := hpd9.2.2
        clear hpd9
        refine va_callr (va_runV (As := []) (rest := [Value.ref h0]) ⟨hx, hb, hml, hown, hts⟩ (c_X11_solved l dC dI aC H.size h0 xp xtp xn xt xk xl xc xo xto xr xch ts ik st po pp ps pa pe pb pk pu pw pq pt un fw ek ef ew ep es n sn dn kf ff wf stf K F W0 S5 L g fo fp fs ro rp rs fk k0 k1 k2 k3 k4 k5 k6 uf vf qf tf bf yf ef0 (hgr) (hev) (hkd) (hst)) ⟨(callB_of 0 hts (gG kw_353) rfl rfl rfl (hts _ (gw kw_1 rfl)) (hts _ (gw kw_350 rfl)) hd_X11_solved ⟨Nat.le_of_ble_eq_true rfl, Nat.le_of_ble_eq_true rfl⟩), (hts _ (gw kw_352 rfl)), (hts _ (gw ks_6 rfl))⟩ ⟨fb_std, va_recv (q := (RX11, TX11, 14)) hK hPc (ci := 11) (q0 := 0) rfl rfl, pre_std hPc hK hDc hN⟩ rfl rfl hl.1 rfl (lv_room (Nat.le_of_ble_eq_true rfl)) dX11_shaken_45 ⟨Nat.le_of_ble_eq_true rfl, Nat.le_of_ble_eq_true rfl⟩) hS (fun q _ h => hFc q h) hFc (fun u9 q_9 t9 H1 locs ht hvm hw_9 hB hz1 hk1 hS => ?_)
        obtain ⟨u_10, u_11, u_12, u_13, u_14, u_15, u_16, u_17, u_18, u_19⟩ := u9
        obtain ⟨q_9_e, hP1, hK1, hD1⟩ := hB
        rw [ht] at hP1
        clear hK1
        try dsimp only at hw_9
        have hpd9 : PDx (dC, dI) classes A H1 (wp [cI aC xr 7 rf, cL aC xch 73 chf, oX11 h0 xp xtp xn xt xk xl xc xo xto xr xch ts ik 0, oX9 xp po pp ps pa pe pb xn pk pu pw pq pt u_10 u_11, oX4 xn ek ef ew ep es (nI n) (nI sn) dn, cI aC ek 8 kf, cI aC ef 8 ff, cI aC ew 8 wf, cI aC es 5 stf, cA aC po 8 fo, cA aC pp 8 fp, cA aC ps 8 fs, cK aC pk 7 fk, cO k0 0 [], cO k1 1 [], cO k2 3 [], cO k3 5 [], cO k4 6 [], cO k5 10 [], cO k6 8 [], cI aC pa 8 u_17, cI aC pe 8 u_18, cI aC pb 8 u_16, cI aC pu 7 u_12, cI aC pw 7 u_13, cI aC pq 128 u_14, cI aC pt 128 u_15] (va_pl L (plE aC u_19))) := jn_P (wr := [cI aC xr 7 rf, cL aC xch 73 chf]) hFc hk1 hP1 hD1 hP hD [0, 1, 26, 2, 3, 4, 5, 6, 7, 8, 9, 10, 11, 12, 13, 14, 15, 16, 17, 18, 19, 20, 21, 22, 23] [24, 25] rfl rfl (by decide) (by decide)
        have hP := hpd9.1
        have hD := hpd9.2
        clear hpd9
        generalize H1 = H at hP hS ⊢
        clear hPc hDc hFc hz1 hk1 hP1 hD1 ht hvm
        have h9 := q_9_e.symm
        subst h9
        obtain ⟨hm1, hm2⟩ := hw_9
        refine va_get (D := (dC, dI)) (ci := 9) (v := Value.ref pa) (C := RX9) (T := TX9) (N := 14) hx hb hts inX9 hown hK hP 3 rfl rfl 3 (by decide) (hts _ (gw kw_157 rfl)) (fun _ h9 => h9) rfl dX11_shaken_48 ?_
        refine lv_aload_n hx hb dX11_shaken_51 rfl (lv_at hl 0 rfl) ?_
        refine va_get (D := (dC, dI)) (ci := 11) (v := Value.ref xn) (C := RX11) (T := TX11) (N := 14) hx hb hts inX11 hown hK hP 2 rfl rfl 2 (by decide) (hts _ (gw kw_228 rfl)) (fun _ h9 => h9) rfl dX11_shaken_52 ?_
        refine va_get (D := (dC, dI)) (ci := 4) (v := Value.int (nI sn)) (C := RX4) (T := TX4) (N := 8) hx hb hts inX4 hown hK hP 4 rfl rfl 6 (by decide) (hts _ (gw kw_52 rfl)) (fun _ h9 => h9) rfl dX11_shaken_55 ?_
        have h_20 : vp_in (nI sn) 8 := by first | exact vp_in_nI (by omega) (by omega) | (unfold vp_in; decide) | (subst_vars; first | (unfold vp_in; decide) | exact vp_in_nI (by omega) (by omega))
        refine va_iald hx hb hK hP 20 0 rfl rfl h_20 dX11_shaken_58 ?_
        refine lv_topi (fun x_21 e_21 => ?_)
        have h9 : x_21 = (zY (PO n K F W0 S5) sn) := by rw [e_21, nI_clamp (by omega)]; exact (hm1 sn hsn).2.2.2.1
        subst h9
        have hpd9 := pdf_N (cx := [oX11 h0 xp xtp xn xt xk xl xc xo xto xr xch ts ik 0, oX4 xn ek ef ew ep es (nI n) (nI sn) dn, cI aC ew 8 wf, cI aC es 5 stf, cL aC xch 73 chf]) hP hD hS hA [2, 4, 7, 8, 1] (by decide) rfl
        have hPc := hpd9.1
        have hDc := hpd9.2.1
        have hFc := hpd9.2.2
        clear hpd9
        refine va_calll (va_runV (As := [Value.int (zY (PO n K F W0 S5) sn)]) (rest := []) ⟨hx, hb, hml, hown, hts⟩ (c_X11_shakeVotes l dC dI aC H.size h0 xp xtp xn xt xk xl xc xo xto xr xch ts ik 0 ek ef ew ep es n sn dn kf ff wf stf K F W0 S5 chf (zY (PO n K F W0 S5) sn) (hev) (hsn)) ⟨(callB_of 1 hts (gG kw_652) rfl rfl rfl (hts _ (gw kw_1 rfl)) (hts _ (gw kw_649 rfl)) hd_X11_shakeVotes ⟨Nat.le_of_ble_eq_true rfl, Nat.le_of_ble_eq_true rfl⟩), (hts _ (gw kw_651 rfl)), (hts _ (gw ks_29 rfl))⟩ ⟨fb_std, va_recv (q := (RX11, TX11, 14)) hK hPc (ci := 11) (q0 := 0) rfl rfl, pre_std hPc hK hDc hN⟩ rfl rfl hl.1 rfl (lv_room (Nat.le_of_ble_eq_true rfl)) dX11_shaken_59 ⟨Nat.le_of_ble_eq_true rfl, Nat.le_of_ble_eq_true rfl⟩) hS (fun q _ h => hFc q h) hFc (fun x_22 u9 t9 H1 locs ht hvm hw_22 hB hz1 hk1 hS => ?_)
        obtain ⟨u_23, rfl⟩ : ∃ z, z = u9 := ⟨_, rfl⟩
        obtain ⟨hP1, hK1, hD1⟩ := hB
        rw [ht] at hP1
        clear hK1
        try dsimp only at hw_22
        have hpd9 : PDx (dC, dI) classes A H1 (wp [cI aC xr 7 rf, oX9 xp po pp ps pa pe pb xn pk pu pw pq pt u_10 u_11, cI aC ek 8 kf, cI aC ef 8 ff, cA aC po 8 fo, cA aC pp 8 fp, cA aC ps 8 fs, cK aC pk 7 fk, cO k0 0 [], cO k1 1 [], cO k2 3 [], cO k3 5 [], cO k4 6 [], cO k5 10 [], cO k6 8 [], cI aC pa 8 u_17, cI aC pe 8 u_18, cI aC pb 8 u_16, cI aC pu 7 u_12, cI aC pw 7 u_13, cI aC pq 128 u_14, cI aC pt 128 u_15, oX11 h0 xp xtp xn xt xk xl xc xo xto xr xch ts ik 0, oX4 xn ek ef ew ep es (nI n) (nI sn) dn, cI aC ew 8 wf, cI aC es 5 stf, cL aC xch 73 u_23] (va_pl L (plE aC u_19))) := jn_Q (wr := [cI aC xr 7 rf, oX9 xp po pp ps pa pe pb xn pk pu pw pq pt u_10 u_11, cI aC ek 8 kf, cI aC ef 8 ff, cA aC po 8 fo, cA aC pp 8 fp, cA aC ps 8 fs, cK aC pk 7 fk, cO k0 0 [], cO k1 1 [], cO k2 3 [], cO k3 5 [], cO k4 6 [], cO k5 10 [], cO k6 8 [], cI aC pa 8 u_17, cI aC pe 8 u_18, cI aC pb 8 u_16, cI aC pu 7 u_12, cI aC pw 7 u_13, cI aC pq 128 u_14, cI aC pt 128 u_15]) hFc hk1 hP1 hD1 hP hD [2, 4, 7, 8, 1] [0, 3, 5, 6, 9, 10, 11, 12, 13, 14, 15, 16, 17, 18, 19, 20, 21, 22, 23, 24, 25, 26] rfl rfl (by decide) (by decide)
        have hP := hpd9.1
        have hD := hpd9.2
        clear hpd9
        generalize H1 = H at hP hS ⊢
        clear hPc hDc hFc hz1 hk1 hP1 hD1 ht hvm
        obtain ⟨hsv1, hsv2⟩ := hw_22
        have h9 : x_22 = lI (100 ^ (n - 1 - sn)) := hsv1
        subst h9
        refine lv_lstore_n (lv' := [(2, Value.long (lI (100 ^ (n - 1 - sn)))), (0, Value.ref h0), (1, Value.int a1)]) hx hb dX11_shaken_62 rfl hl (by decide) rfl (fun ls hl => ?_)
        refine lv_aload_n hx hb dX11_shaken_63 rfl (lv_at hl 1 rfl) ?_
        have hpd9 := pdf_N (cx := [oX11 h0 xp xtp xn xt xk xl xc xo xto xr xch ts ik 0, oX4 xn ek ef ew ep es (nI n) (nI sn) dn, cI aC ew 8 wf, cI aC es 5 stf, cL aC xch 73 u_23]) hP hD hS hA [22, 23, 24, 25, 26] (by decide) rfl
        have hPc := hpd9.1
        have hDc := hpd9.2.1
        have hFc := hpd9.2.2
        clear hpd9
        refine va_calll (va_runV (As := []) (rest := []) ⟨hx, hb, hml, hown, hts⟩ (c_X11_chanceCarried l dC dI aC H.size h0 xp xtp xn xt xk xl xc xo xto xr xch ts ik 0 ek ef ew ep es n sn dn kf ff wf stf K F W0 S5 u_23 (DC W0 (zY (PO n K F W0 S5) sn) (S5 4) sn (n - 1 - sn)) (hev) (hsv2)) ⟨(callB_of 0 hts (gG kw_664) rfl rfl rfl (hts _ (gw kw_1 rfl)) (hts _ (gw kw_661 rfl)) hd_X11_chanceCarried ⟨Nat.le_of_ble_eq_true rfl, Nat.le_of_ble_eq_true rfl⟩), (hts _ (gw kw_663 rfl)), (hts _ (gw ks_31 rfl))⟩ ⟨fb_std, va_recv (q := (RX11, TX11, 14)) hK hPc (ci := 11) (q0 := 0) rfl rfl, pre_std hPc hK hDc hN⟩ rfl rfl hl.1 rfl (lv_room (Nat.le_of_ble_eq_true rfl)) dX11_shaken_64 ⟨Nat.le_of_ble_eq_true rfl, Nat.le_of_ble_eq_true rfl⟩) hS (fun q _ h => hFc q h) hFc (fun x_24 u9 t9 H1 locs ht hvm hw_24 hB hz1 hk1 hS => ?_)
        obtain ⟨hP1, hK1, hD1⟩ := hB
        rw [ht] at hP1
        clear hK1
        try dsimp only at hw_24
        have hpd9 : PDx (dC, dI) classes A H1 (wp [cI aC xr 7 rf, oX9 xp po pp ps pa pe pb xn pk pu pw pq pt u_10 u_11, cI aC ek 8 kf, cI aC ef 8 ff, cA aC po 8 fo, cA aC pp 8 fp, cA aC ps 8 fs, cK aC pk 7 fk, cO k0 0 [], cO k1 1 [], cO k2 3 [], cO k3 5 [], cO k4 6 [], cO k5 10 [], cO k6 8 [], cI aC pa 8 u_17, cI aC pe 8 u_18, cI aC pb 8 u_16, cI aC pu 7 u_12, cI aC pw 7 u_13, cI aC pq 128 u_14, cI aC pt 128 u_15, oX11 h0 xp xtp xn xt xk xl xc xo xto xr xch ts ik 0, oX4 xn ek ef ew ep es (nI n) (nI sn) dn, cI aC ew 8 wf, cI aC es 5 stf, cL aC xch 73 u_23] (va_pl L (plE aC u_19))) := jn_Q (wr := [cI aC xr 7 rf, oX9 xp po pp ps pa pe pb xn pk pu pw pq pt u_10 u_11, cI aC ek 8 kf, cI aC ef 8 ff, cA aC po 8 fo, cA aC pp 8 fp, cA aC ps 8 fs, cK aC pk 7 fk, cO k0 0 [], cO k1 1 [], cO k2 3 [], cO k3 5 [], cO k4 6 [], cO k5 10 [], cO k6 8 [], cI aC pa 8 u_17, cI aC pe 8 u_18, cI aC pb 8 u_16, cI aC pu 7 u_12, cI aC pw 7 u_13, cI aC pq 128 u_14, cI aC pt 128 u_15]) hFc hk1 hP1 hD1 hP hD [22, 23, 24, 25, 26] [0, 1, 2, 3, 4, 5, 6, 7, 8, 9, 10, 11, 12, 13, 14, 15, 16, 17, 18, 19, 20, 21] rfl rfl (by decide) (by decide)
        have hP := hpd9.1
        have hD := hpd9.2
        clear hpd9
        generalize H1 = H at hP hS ⊢
        clear hPc hDc hFc hz1 hk1 hP1 hD1 ht hvm
        have hcc9 := hw_24
        have h9 : x_24 = lI (UPN n W0 (nI (S5 1)) (zY (PO n K F W0 S5) sn) (S5 4) sn) := by rw [hcc9, UPN_x hsn hn8 (fun j q => ((HW_of hev.1).2 j q).2)]
        subst h9
        have hul := UPN_le (n := n) (W := W0) (law := nI (S5 1)) (Y := (zY (PO n K F W0 S5) sn)) (t := S5 4) (i := sn) (by omega)
        have hdl : 100 ^ (n - 1 - sn) ≤ 100 ^ 7 := Nat.pow_le_pow_right (by omega) (by omega)
        have hd0 : 0 < 100 ^ (n - 1 - sn) := Nat.pow_pos (by omega)
        have h17 : 100 ^ 7 < 2 ^ 63 := by decide +kernel
        have hab9 : (UPN n W0 (nI (S5 1)) (zY (PO n K F W0 S5) sn) (S5 4) sn) * (100 ^ (n - 1 - sn)) < 2 ^ 99 := Nat.lt_of_le_of_lt (Nat.mul_le_mul (Nat.le_trans hul hdl) hdl) (by decide +kernel)
        have hg0 : 0 < Nat.gcd (UPN n W0 (nI (S5 1)) (zY (PO n K F W0 S5) sn) (S5 4) sn) (100 ^ (n - 1 - sn)) := Nat.gcd_pos_of_pos_right _ hd0
        have hg1 : Nat.gcd (UPN n W0 (nI (S5 1)) (zY (PO n K F W0 S5) sn) (S5 4) sn) (100 ^ (n - 1 - sn)) < 2 ^ 63 := Nat.lt_of_le_of_lt (Nat.le_trans (Nat.gcd_le_right _ hd0) hdl) h17
        have hu6 : (UPN n W0 (nI (S5 1)) (zY (PO n K F W0 S5) sn) (S5 4) sn) < 2 ^ 63 := Nat.lt_of_le_of_lt (Nat.le_trans hul hdl) h17
        have hd6 : (100 ^ (n - 1 - sn)) < 2 ^ 63 := Nat.lt_of_le_of_lt hdl h17
        refine lv_lstore (lv' := [(4, Value.long (lI (UPN n W0 (nI (S5 1)) (zY (PO n K F W0 S5) sn) (S5 4) sn))), (2, Value.long (lI (100 ^ (n - 1 - sn)))), (0, Value.ref h0), (1, Value.int a1)]) hx hb dX11_shaken_67 hl (by decide) rfl (fun ls hl => ?_)
        refine lv_lload hx hb dX11_shaken_69 (lv_at hl 0 rfl) ?_
        refine lv_lload_n hx hb dX11_shaken_71 rfl (lv_at hl 1 rfl) ?_
        have hpd9 := pdf_N (cx := []) hP hD hS hA [] (by decide) rfl
        have hPc := hpd9.1
        have hDc := hpd9.2.1
        have hFc := hpd9.2.2
        clear hpd9
        refine va_calll (va_runS (As := [Value.long (lI (UPN n W0 (nI (S5 1)) (zY (PO n K F W0 S5) sn) (S5 4) sn)), Value.long (lI (100 ^ (n - 1 - sn)))]) (rest := []) ⟨hx, hb, hml, hown, hts⟩ (c_X11_commonDivisor l dC dI aC H.size (UPN n W0 (nI (S5 1)) (zY (PO n K F W0 S5) sn) (S5 4) sn) (100 ^ (n - 1 - sn)) (hab9) (⟨hu6, hd6⟩)) ⟨(callB_of 2 hts (gG kw_669) rfl rfl rfl (hts _ (gw kw_1 rfl)) (hts _ (gw kw_667 rfl)) hd_X11_commonDivisor ⟨Nat.le_of_ble_eq_true rfl, Nat.le_of_ble_eq_true rfl⟩), (hts _ (gw kw_668 rfl))⟩ ⟨fb_std, pre_std hPc hK hDc hN⟩ rfl rfl hl.1 rfl (lv_room (Nat.le_of_ble_eq_true rfl)) dX11_shaken_72 ⟨Nat.le_of_ble_eq_true rfl, Nat.le_of_ble_eq_true rfl⟩) hS (fun q _ h => hFc q h) hFc (fun x_25 u9 t9 H1 locs ht hvm hw_25 hB hz1 hk1 hS => ?_)
        obtain ⟨hP1, hK1, hD1⟩ := hB
        rw [ht] at hP1
        clear hK1
        try dsimp only at hw_25
        have hpd9 : PDx (dC, dI) classes A H1 (wp [cI aC xr 7 rf, oX9 xp po pp ps pa pe pb xn pk pu pw pq pt u_10 u_11, cI aC ek 8 kf, cI aC ef 8 ff, cA aC po 8 fo, cA aC pp 8 fp, cA aC ps 8 fs, cK aC pk 7 fk, cO k0 0 [], cO k1 1 [], cO k2 3 [], cO k3 5 [], cO k4 6 [], cO k5 10 [], cO k6 8 [], cI aC pa 8 u_17, cI aC pe 8 u_18, cI aC pb 8 u_16, cI aC pu 7 u_12, cI aC pw 7 u_13, cI aC pq 128 u_14, cI aC pt 128 u_15, oX11 h0 xp xtp xn xt xk xl xc xo xto xr xch ts ik 0, oX4 xn ek ef ew ep es (nI n) (nI sn) dn, cI aC ew 8 wf, cI aC es 5 stf, cL aC xch 73 u_23] (va_pl L (plE aC u_19))) := jn_Q (wr := [cI aC xr 7 rf, oX9 xp po pp ps pa pe pb xn pk pu pw pq pt u_10 u_11, cI aC ek 8 kf, cI aC ef 8 ff, cA aC po 8 fo, cA aC pp 8 fp, cA aC ps 8 fs, cK aC pk 7 fk, cO k0 0 [], cO k1 1 [], cO k2 3 [], cO k3 5 [], cO k4 6 [], cO k5 10 [], cO k6 8 [], cI aC pa 8 u_17, cI aC pe 8 u_18, cI aC pb 8 u_16, cI aC pu 7 u_12, cI aC pw 7 u_13, cI aC pq 128 u_14, cI aC pt 128 u_15, oX11 h0 xp xtp xn xt xk xl xc xo xto xr xch ts ik 0, oX4 xn ek ef ew ep es (nI n) (nI sn) dn, cI aC ew 8 wf, cI aC es 5 stf, cL aC xch 73 u_23]) hFc hk1 hP1 hD1 hP hD [] [0, 1, 2, 3, 4, 5, 6, 7, 8, 9, 10, 11, 12, 13, 14, 15, 16, 17, 18, 19, 20, 21, 22, 23, 24, 25, 26] rfl rfl (by decide) (by decide)
        have hP := hpd9.1
        have hD := hpd9.2
        clear hpd9
        generalize H1 = H at hP hS ⊢
        clear hPc hDc hFc hz1 hk1 hP1 hD1 ht hvm
        have hgc9 := hw_25
        have h9 : x_25 = lI (Nat.gcd (UPN n W0 (nI (S5 1)) (zY (PO n K F W0 S5) sn) (S5 4) sn) (100 ^ (n - 1 - sn))) := hgc9
        subst h9
        refine lv_lstore (lv' := [(6, Value.long (lI (Nat.gcd (UPN n W0 (nI (S5 1)) (zY (PO n K F W0 S5) sn) (S5 4) sn) (100 ^ (n - 1 - sn))))), (4, Value.long (lI (UPN n W0 (nI (S5 1)) (zY (PO n K F W0 S5) sn) (S5 4) sn))), (2, Value.long (lI (100 ^ (n - 1 - sn)))), (0, Value.ref h0), (1, Value.int a1)]) hx hb dX11_shaken_75 hl (by decide) rfl (fun ls hl => ?_)
        refine lv_lload hx hb dX11_shaken_77 (lv_at hl 0 rfl) ?_
        refine lv_lconst (v := 0) hx hb dX11_shaken_79 (by decide) ?_
        refine W.lcmp hx hb dX11_shaken_80 ?_
        refine lv_topi (fun x_26 e_26 => ?_)
        refine lv_if_gt (tgt := 86) hx hb dX11_shaken_81 (by decide) (fun c_27 => ?_) (fun c_27 => ?_)
        · refine lv_iload_n hx hb dX11_shaken_86 rfl (lv_at hl 4 rfl) ?_
          refine lv_if_ne (tgt := 95) hx hb dX11_shaken_87 (by decide) (fun c_28 => ?_) (fun c_28 => ?_)
          · refine lv_lload_n hx hb dX11_shaken_95 rfl (lv_at hl 2 rfl) ?_
            refine lv_lload hx hb dX11_shaken_96 (lv_at hl 0 rfl) ?_
            refine lv_ldiv hx hb dX11_shaken_98 (fun q => by have := (lI_eq hg1 (b := 0) (by omega)).mp q; omega) ?_
            refine lv_topl (fun x_29 e_29 => ?_)
            have hpd9 := pd_P (cx := [oX11 h0 xp xtp xn xt xk xl xc xo xto xr xch ts ik 0, oX9 xp po pp ps pa pe pb xn pk pu pw pq pt u_10 u_11, oX4 xn ek ef ew ep es (nI n) (nI sn) dn, cI aC ek 8 kf, cI aC ef 8 ff, cI aC ew 8 wf, cI aC es 5 stf, cA aC po 8 fo, cA aC pp 8 fp, cA aC ps 8 fs, cK aC pk 7 fk, cO k0 0 [], cO k1 1 [], cO k2 3 [], cO k3 5 [], cO k4 6 [], cO k5 10 [], cO k6 8 [], cI aC pa 8 u_17, cI aC pe 8 u_18, cI aC pb 8 u_16, cI aC pu 7 u_12, cI aC pw 7 u_13, cI aC pq 128 u_14, cI aC pt 128 u_15, cI aC xr 7 rf, cL aC xch 73 u_23]) hP hD [22, 1, 23, 2, 3, 24, 25, 4, 5, 6, 7, 8, 9, 10, 11, 12, 13, 14, 15, 16, 17, 18, 19, 20, 21, 0, 26] (by decide) rfl
            have hP9 := hpd9.1
            have hD9 := hpd9.2
            refine W.widen (k := 0) (n := 0) (by omega) (by omega) ?_
            exact W.lret (v := x_29) hx hb hr (fun t ht hW => ⟨⟨x_29, (u_10, u_11, u_12, u_13, u_14, u_15, u_16, u_17, u_18, u_19, 0, rf, u_23), rfl, ⟨Or.inr ⟨rfl, hm1⟩, hm2, by rw [e_29, lI_div hd6 hg0 hg1]; unfold rShk SHV; rw [if_neg (fun q => q.elim c_1 (fun z => absurd c_6 (Int32.not_le.mpr z))), if_neg hov, if_neg c_28]⟩, by rw [ht]; exact hP9, va_K.moved hW.alike hK, hD9⟩, hS.F ht⟩) hS.2.2 dX11_shaken_99
          · refine lv_lload hx hb dX11_shaken_90 (lv_at hl 1 rfl) ?_
            refine lv_goto (tgt := 96) hx hb dX11_shaken_92 (by decide) ?_
            refine lv_lload hx hb dX11_shaken_96 (lv_at hl 0 rfl) ?_
            refine lv_ldiv hx hb dX11_shaken_98 (fun q => by have := (lI_eq hg1 (b := 0) (by omega)).mp q; omega) ?_
            refine lv_topl (fun x_30 e_30 => ?_)
            have hpd9 := pd_P (cx := [oX11 h0 xp xtp xn xt xk xl xc xo xto xr xch ts ik 0, oX9 xp po pp ps pa pe pb xn pk pu pw pq pt u_10 u_11, oX4 xn ek ef ew ep es (nI n) (nI sn) dn, cI aC ek 8 kf, cI aC ef 8 ff, cI aC ew 8 wf, cI aC es 5 stf, cA aC po 8 fo, cA aC pp 8 fp, cA aC ps 8 fs, cK aC pk 7 fk, cO k0 0 [], cO k1 1 [], cO k2 3 [], cO k3 5 [], cO k4 6 [], cO k5 10 [], cO k6 8 [], cI aC pa 8 u_17, cI aC pe 8 u_18, cI aC pb 8 u_16, cI aC pu 7 u_12, cI aC pw 7 u_13, cI aC pq 128 u_14, cI aC pt 128 u_15, cI aC xr 7 rf, cL aC xch 73 u_23]) hP hD [22, 1, 23, 2, 3, 24, 25, 4, 5, 6, 7, 8, 9, 10, 11, 12, 13, 14, 15, 16, 17, 18, 19, 20, 21, 0, 26] (by decide) rfl
            have hP9 := hpd9.1
            have hD9 := hpd9.2
            refine W.widen (k := 0) (n := 0) (by omega) (by omega) ?_
            exact W.lret (v := x_30) hx hb hr (fun t ht hW => ⟨⟨x_30, (u_10, u_11, u_12, u_13, u_14, u_15, u_16, u_17, u_18, u_19, 0, rf, u_23), rfl, ⟨Or.inr ⟨rfl, hm1⟩, hm2, by rw [e_30, lI_div hu6 hg0 hg1]; unfold rShk SHV; rw [if_neg (fun q => q.elim c_1 (fun z => absurd c_6 (Int32.not_le.mpr z))), if_neg hov, if_pos c_28]⟩, by rw [ht]; exact hP9, va_K.moved hW.alike hK, hD9⟩, hS.F ht⟩) hS.2.2 dX11_shaken_99
        · exact absurd (by rw [e_26]; exact lc_pos hg0 hg1) c_27
      · refine lv_ldc2 hx hb hown (hts _ (gw kw_648 rfl)) dX11_shaken_31 ?_
        refine lv_aload_n hx hb dX11_shaken_34 rfl (lv_at hl 0 rfl) ?_
        refine lv_bipush (v := -3) hx hb dX11_shaken_35 (by decide) ?_
        have hpd9 := pdf_N (cx := [oX11 h0 xp xtp xn xt xk xl xc xo xto xr xch ts ik st, cI aC xr 7 rf]) hP hD hS hA [0, 24] (by decide) rfl
        have hPc := hpd9.1
        have hDc := hpd9.2.1
        have hFc := hpd9.2.2
        clear hpd9
        refine va_calli (va_runV (As := [Value.int (-3)]) (rest := [Value.long 4000000000000000000]) ⟨hx, hb, hml, hown, hts⟩ (c_X11_refuse l dC dI aC H.size h0 xp xtp xn xt xk xl xc xo xto xr xch ts ik st (-3) 3 rf (by decide) (by decide) (by decide) (by unfold vp_in; decide)) ⟨(callB_of 1 hts (gG kw_276) rfl rfl rfl (hts _ (gw kw_1 rfl)) (hts _ (gw kw_273 rfl)) hd_X11_refuse ⟨Nat.le_of_ble_eq_true rfl, Nat.le_of_ble_eq_true rfl⟩), (hts _ (gw kw_275 rfl)), (hts _ (gw ks_0 rfl))⟩ ⟨fb_std, va_recv (q := (RX11, TX11, 14)) hK hPc (ci := 11) (q0 := 0) rfl rfl, pre_std hPc hK hDc hN⟩ rfl rfl hl.1 rfl (lv_room (Nat.le_of_ble_eq_true rfl)) dX11_shaken_37 ⟨Nat.le_of_ble_eq_true rfl, Nat.le_of_ble_eq_true rfl⟩) hS (fun q _ h => hFc q h) hFc (fun x_31 u9 t9 H1 locs ht hvm hw_31 hB hz1 hk1 hS => ?_)
        obtain ⟨u_32, rfl⟩ : ∃ z, z = u9 := ⟨_, rfl⟩
        obtain ⟨hP1, hK1, hD1⟩ := hB
        rw [ht] at hP1
        clear hK1
        try dsimp only at hw_31
        have hpd9 : PDx (dC, dI) classes A H1 (wp [oX9 xp po pp ps pa pe pb xn pk pu pw pq pt un fw, cI aC ek 8 kf, cI aC ef 8 ff, cI aC ew 8 wf, cI aC es 5 stf, cA aC po 8 fo, cA aC pp 8 fp, cA aC ps 8 fs, cK aC pk 7 fk, cO k0 0 [], cO k1 1 [], cO k2 3 [], cO k3 5 [], cO k4 6 [], cO k5 10 [], cO k6 8 [], cI aC pa 8 yf, cI aC pe 8 ef0, cI aC pb 8 bf, cI aC pu 7 uf, cI aC pw 7 vf, cI aC pq 128 qf, cI aC pt 128 tf, cL aC xch 73 chf, oX4 xn ek ef ew ep es (nI n) (nI sn) dn, oX11 h0 xp xtp xn xt xk xl xc xo xto xr xch ts ik st, cI aC xr 7 u_32] (va_pl L (plE aC g))) := jn_Q (wr := [oX9 xp po pp ps pa pe pb xn pk pu pw pq pt un fw, cI aC ek 8 kf, cI aC ef 8 ff, cI aC ew 8 wf, cI aC es 5 stf, cA aC po 8 fo, cA aC pp 8 fp, cA aC ps 8 fs, cK aC pk 7 fk, cO k0 0 [], cO k1 1 [], cO k2 3 [], cO k3 5 [], cO k4 6 [], cO k5 10 [], cO k6 8 [], cI aC pa 8 yf, cI aC pe 8 ef0, cI aC pb 8 bf, cI aC pu 7 uf, cI aC pw 7 vf, cI aC pq 128 qf, cI aC pt 128 tf, cL aC xch 73 chf, oX4 xn ek ef ew ep es (nI n) (nI sn) dn]) hFc hk1 hP1 hD1 hP hD [0, 24] [1, 2, 3, 4, 5, 6, 7, 8, 9, 10, 11, 12, 13, 14, 15, 16, 17, 18, 19, 20, 21, 22, 23, 25, 26] rfl rfl (by decide) (by decide)
        have hP := hpd9.1
        have hD := hpd9.2
        clear hpd9
        generalize H1 = H at hP hS ⊢
        clear hPc hDc hFc hz1 hk1 hP1 hD1 ht hvm
        obtain ⟨hv9, -⟩ := hw_31
        refine lv_i2l hx hb dX11_shaken_40 rfl ?_
        refine lv_topl (fun x_33 e_33 => ?_)
        refine lv_lsub hx hb dX11_shaken_41 ?_
        refine lv_topl (fun x_34 e_34 => ?_)
        have hpd9 := pd_P (cx := [oX11 h0 xp xtp xn xt xk xl xc xo xto xr xch ts ik st, oX9 xp po pp ps pa pe pb xn pk pu pw pq pt un fw, oX4 xn ek ef ew ep es (nI n) (nI sn) dn, cI aC ek 8 kf, cI aC ef 8 ff, cI aC ew 8 wf, cI aC es 5 stf, cA aC po 8 fo, cA aC pp 8 fp, cA aC ps 8 fs, cK aC pk 7 fk, cO k0 0 [], cO k1 1 [], cO k2 3 [], cO k3 5 [], cO k4 6 [], cO k5 10 [], cO k6 8 [], cI aC pa 8 yf, cI aC pe 8 ef0, cI aC pb 8 bf, cI aC pu 7 uf, cI aC pw 7 vf, cI aC pq 128 qf, cI aC pt 128 tf, cI aC xr 7 u_32, cL aC xch 73 chf]) hP hD [25, 0, 24, 1, 2, 3, 4, 5, 6, 7, 8, 9, 10, 11, 12, 13, 14, 15, 16, 17, 18, 19, 20, 21, 22, 26, 23] (by decide) rfl
        have hP9 := hpd9.1
        have hD9 := hpd9.2
        refine W.widen (k := 0) (n := 0) (by omega) (by omega) ?_
        exact W.lret (v := x_34) hx hb hr (fun t ht hW => ⟨⟨x_34, (un, fw, uf, vf, qf, tf, bf, yf, ef0, g, st, u_32, chf), rfl, ⟨hst, fun a _ => rfl, by rw [e_34, e_33, hv9]; unfold rShk; rw [if_neg (fun q => q.elim c_1 (fun z => absurd c_6 (Int32.not_le.mpr z))), if_pos (ovx_y hn8 hev.2.2.2.2 hz_25 c_8)]; first | done | rfl | decide +kernel⟩, by rw [ht]; exact hP9, va_K.moved hW.alike hK, hD9⟩, hS.F ht⟩) hS.2.2 dX11_shaken_42
    · refine lv_ldc2 hx hb hown (hts _ (gw kw_648 rfl)) dX11_shaken_9 ?_
      refine lv_aload_n hx hb dX11_shaken_12 rfl (lv_at hl 0 rfl) ?_
      refine lv_bipush (v := -2) hx hb dX11_shaken_13 (by decide) ?_
      have hpd9 := pdf_N (cx := [oX11 h0 xp xtp xn xt xk xl xc xo xto xr xch ts ik st, cI aC xr 7 rf]) hP hD hS hA [0, 25] (by decide) rfl
      have hPc := hpd9.1
      have hDc := hpd9.2.1
      have hFc := hpd9.2.2
      clear hpd9
      refine va_calli (va_runV (As := [Value.int (-2)]) (rest := [Value.long 4000000000000000000]) ⟨hx, hb, hml, hown, hts⟩ (c_X11_refuse l dC dI aC H.size h0 xp xtp xn xt xk xl xc xo xto xr xch ts ik st (-2) 2 rf (by decide) (by decide) (by decide) (by unfold vp_in; decide)) ⟨(callB_of 1 hts (gG kw_276) rfl rfl rfl (hts _ (gw kw_1 rfl)) (hts _ (gw kw_273 rfl)) hd_X11_refuse ⟨Nat.le_of_ble_eq_true rfl, Nat.le_of_ble_eq_true rfl⟩), (hts _ (gw kw_275 rfl)), (hts _ (gw ks_0 rfl))⟩ ⟨fb_std, va_recv (q := (RX11, TX11, 14)) hK hPc (ci := 11) (q0 := 0) rfl rfl, pre_std hPc hK hDc hN⟩ rfl rfl hl.1 rfl (lv_room (Nat.le_of_ble_eq_true rfl)) dX11_shaken_15 ⟨Nat.le_of_ble_eq_true rfl, Nat.le_of_ble_eq_true rfl⟩) hS (fun q _ h => hFc q h) hFc (fun x_35 u9 t9 H1 locs ht hvm hw_35 hB hz1 hk1 hS => ?_)
      obtain ⟨u_36, rfl⟩ : ∃ z, z = u9 := ⟨_, rfl⟩
      obtain ⟨hP1, hK1, hD1⟩ := hB
      rw [ht] at hP1
      clear hK1
      try dsimp only at hw_35
      have hpd9 : PDx (dC, dI) classes A H1 (wp [oX9 xp po pp ps pa pe pb xn pk pu pw pq pt un fw, oX4 xn ek ef ew ep es (nI n) (nI sn) dn, cI aC ek 8 kf, cI aC ef 8 ff, cI aC ew 8 wf, cI aC es 5 stf, cA aC po 8 fo, cA aC pp 8 fp, cA aC ps 8 fs, cK aC pk 7 fk, cO k0 0 [], cO k1 1 [], cO k2 3 [], cO k3 5 [], cO k4 6 [], cO k5 10 [], cO k6 8 [], cI aC pa 8 yf, cI aC pe 8 ef0, cI aC pb 8 bf, cI aC pu 7 uf, cI aC pw 7 vf, cI aC pq 128 qf, cI aC pt 128 tf, cL aC xch 73 chf, oX11 h0 xp xtp xn xt xk xl xc xo xto xr xch ts ik st, cI aC xr 7 u_36] (va_pl L (plE aC g))) := jn_Q (wr := [oX9 xp po pp ps pa pe pb xn pk pu pw pq pt un fw, oX4 xn ek ef ew ep es (nI n) (nI sn) dn, cI aC ek 8 kf, cI aC ef 8 ff, cI aC ew 8 wf, cI aC es 5 stf, cA aC po 8 fo, cA aC pp 8 fp, cA aC ps 8 fs, cK aC pk 7 fk, cO k0 0 [], cO k1 1 [], cO k2 3 [], cO k3 5 [], cO k4 6 [], cO k5 10 [], cO k6 8 [], cI aC pa 8 yf, cI aC pe 8 ef0, cI aC pb 8 bf, cI aC pu 7 uf, cI aC pw 7 vf, cI aC pq 128 qf, cI aC pt 128 tf, cL aC xch 73 chf]) hFc hk1 hP1 hD1 hP hD [0, 25] [1, 2, 3, 4, 5, 6, 7, 8, 9, 10, 11, 12, 13, 14, 15, 16, 17, 18, 19, 20, 21, 22, 23, 24, 26] rfl rfl (by decide) (by decide)
      have hP := hpd9.1
      have hD := hpd9.2
      clear hpd9
      generalize H1 = H at hP hS ⊢
      clear hPc hDc hFc hz1 hk1 hP1 hD1 ht hvm
      obtain ⟨hv9, -⟩ := hw_35
      refine lv_i2l hx hb dX11_shaken_18 rfl ?_
      refine lv_topl (fun x_37 e_37 => ?_)
      refine lv_lsub hx hb dX11_shaken_19 ?_
      refine lv_topl (fun x_38 e_38 => ?_)
      have hpd9 := pd_P (cx := [oX11 h0 xp xtp xn xt xk xl xc xo xto xr xch ts ik st, oX9 xp po pp ps pa pe pb xn pk pu pw pq pt un fw, oX4 xn ek ef ew ep es (nI n) (nI sn) dn, cI aC ek 8 kf, cI aC ef 8 ff, cI aC ew 8 wf, cI aC es 5 stf, cA aC po 8 fo, cA aC pp 8 fp, cA aC ps 8 fs, cK aC pk 7 fk, cO k0 0 [], cO k1 1 [], cO k2 3 [], cO k3 5 [], cO k4 6 [], cO k5 10 [], cO k6 8 [], cI aC pa 8 yf, cI aC pe 8 ef0, cI aC pb 8 bf, cI aC pu 7 uf, cI aC pw 7 vf, cI aC pq 128 qf, cI aC pt 128 tf, cI aC xr 7 u_36, cL aC xch 73 chf]) hP hD [25, 0, 1, 2, 3, 4, 5, 6, 7, 8, 9, 10, 11, 12, 13, 14, 15, 16, 17, 18, 19, 20, 21, 22, 23, 26, 24] (by decide) rfl
      have hP9 := hpd9.1
      have hD9 := hpd9.2
      refine W.widen (k := 0) (n := 0) (by omega) (by omega) ?_
      exact W.lret (v := x_38) hx hb hr (fun t ht hW => ⟨⟨x_38, (un, fw, uf, vf, qf, tf, bf, yf, ef0, g, st, u_36, chf), rfl, ⟨hst, fun a _ => rfl, by rw [e_38, e_37, hv9]; unfold rShk; rw [if_pos (Or.inr (Int32.not_le.mp c_6))]; first | done | rfl | decide +kernel⟩, by rw [ht]; exact hP9, va_K.moved hW.alike hK, hD9⟩, hS.F ht⟩) hS.2.2 dX11_shaken_20

end

section
/-! 72.seeds -/
set_option maxHeartbeats 1000000 in
set_option maxRecDepth 100000 in
/-- X11_bestAge -/
theorem c_X11_bestAge (l : Launch) (dC : Nat → ClassId) (dI : Nat → Nat → Nat) (aC : Nat → ClassId) (sz : Nat) (h0 : Nat) (xp : Nat) (xtp : Nat) (xn : Nat) (xt : Nat) (xk : Nat) (xl : Nat) (xc : Nat) (xo : Nat) (xto : Nat) (xr : Nat) (xch : Nat) (ts : Int32) (ik : Int32) (st : Int32) (ek : Nat) (ef : Nat) (ew : Nat) (ep : Nat) (es : Nat) (n : Nat) (sn : Nat) (dn : Int32) (kf : Nat → Int32) (ff : Nat → Int32) (wf : Nat → Int32) (pf : Nat → Int32) (stf : Nat → Int32) (tek : Nat) (tef : Nat) (tew : Nat) (tep : Nat) (tes : Nat) (tsz : Int32) (tsy : Int32) (tdn : Int32) (tkf : Nat → Int32) (tff : Nat → Int32) (twf : Nat → Int32) (tpf : Nat → Int32) (tsf : Nat → Int32) (K : Nat → Nat) (F : Nat → Nat) (W0 : Nat → Nat) (S5 : Nat → Nat) (pk : Nat) (fk : Nat → Option Nat) (k0 : Nat) (k1 : Nat) (k2 : Nat) (k3 : Nat) (k4 : Nat) (k5 : Nat) (k6 : Nat) (tpo : Nat) (tpp : Nat) (tps : Nat) (tpa : Nat) (tpe : Nat) (tpb : Nat) (tpu : Nat) (tpw : Nat) (tpq : Nat) (tpt : Nat) (tun : Int32) (tfw : Int32) (tfo : Nat → Option Nat) (tfp : Nat → Option Nat) (tfs : Nat → Option Nat) (tro : Nat → Nat) (trp : Nat → Nat) (trs : Nat → Nat) (tuf : Nat → Int32) (tvf : Nat → Int32) (tqf : Nat → Int32) (ttf : Nat → Int32) (tbf : Nat → Int32) (tyf : Nat → Int32) (teg0 : Nat → Int32) (L : List Nat) (g : Nat → Nat → Int32) (orf : Nat → Int32) (rf : Nat → Int32) (i : Int32) (tG : Nat) (hev : EVS n sn dn K F W0 S5 kf ff wf stf) (hkd : KDS fk k0 k1 k2 k3 k4 k5 k6) (htg : GRD L tfo tfp tfs tro trp trs) : Met l yX11_bestAge (wW yX11_bestAge cX11_bestAge 5 (some .int)) ({ frames := 6, cells := 0, slots := 0, locals := 131 } : Room) (va_Pc [Value.ref h0, Value.int i] (fun U => U.heap.size = sz ∧ va_P (dC, dI) classes (wp [oX11 h0 xp xtp xn xt xk xl xc xo xto xr xch ts ik st, oX4 xn ek ef ew ep es (nI n) (nI sn) dn, cI aC ek 8 kf, cI aC ef 8 ff, cI aC ew 8 wf, cI aC ep 8 pf, cI aC es 5 stf, oX4 xt tek tef tew tep tes tsz tsy tdn, cI aC tek 8 tkf, cI aC tef 8 tff, cI aC tew 8 twf, cI aC tep 8 tpf, cI aC tes 5 tsf, oX9 xtp tpo tpp tps tpa tpe tpb xt pk tpu tpw tpq tpt tun tfw, cA aC tpo 8 tfo, cA aC tpp 8 tfp, cA aC tps 8 tfs, cK aC pk 7 fk, cO k0 0 [], cO k1 1 [], cO k2 3 [], cO k3 5 [], cO k4 6 [], cO k5 10 [], cO k6 8 [], cI aC tpa 8 tyf, cI aC tpe 8 teg0, cI aC tpb 8 tbf, cI aC tpu 7 tuf, cI aC tpw 7 tvf, cI aC tpq 128 tqf, cI aC tpt 128 ttf, cI aC xo 8 orf, cI aC xr 7 rf] (va_pl L (plE aC g))) U.heap ∧ va_K (dC, dI) classes (TY aC) U ∧ va_D (fun _ => True) (wp [oX11 h0 xp xtp xn xt xk xl xc xo xto xr xch ts ik st, oX4 xn ek ef ew ep es (nI n) (nI sn) dn, cI aC ek 8 kf, cI aC ef 8 ff, cI aC ew 8 wf, cI aC ep 8 pf, cI aC es 5 stf, oX4 xt tek tef tew tep tes tsz tsy tdn, cI aC tek 8 tkf, cI aC tef 8 tff, cI aC tew 8 twf, cI aC tep 8 tpf, cI aC tes 5 tsf, oX9 xtp tpo tpp tps tpa tpe tpb xt pk tpu tpw tpq tpt tun tfw, cA aC tpo 8 tfo, cA aC tpp 8 tfp, cA aC tps 8 tfs, cK aC pk 7 fk, cO k0 0 [], cO k1 1 [], cO k2 3 [], cO k3 5 [], cO k4 6 [], cO k5 10 [], cO k6 8 [], cI aC tpa 8 tyf, cI aC tpe 8 teg0, cI aC tpb 8 tbf, cI aC tpu 7 tuf, cI aC tpw 7 tvf, cI aC tpq 128 tqf, cI aC tpt 128 ttf, cI aC xo 8 orf, cI aC xr 7 rf] (va_pl L (plE aC g))) ∧ NX U ∧ va_Z "EldestSays" "GREATEST" "[I" (.ref tG) (va_A (wp [oX11 h0 xp xtp xn xt xk xl xc xo xto xr xch ts ik st, oX4 xn ek ef ew ep es (nI n) (nI sn) dn, cI aC ek 8 kf, cI aC ef 8 ff, cI aC ew 8 wf, cI aC ep 8 pf, cI aC es 5 stf, oX4 xt tek tef tew tep tes tsz tsy tdn, cI aC tek 8 tkf, cI aC tef 8 tff, cI aC tew 8 twf, cI aC tep 8 tpf, cI aC tes 5 tsf, oX9 xtp tpo tpp tps tpa tpe tpb xt pk tpu tpw tpq tpt tun tfw, cA aC tpo 8 tfo, cA aC tpp 8 tfp, cA aC tps 8 tfs, cK aC pk 7 fk, cO k0 0 [], cO k1 1 [], cO k2 3 [], cO k3 5 [], cO k4 6 [], cO k5 10 [], cO k6 8 [], cI aC tpa 8 tyf, cI aC tpe 8 teg0, cI aC tpb 8 tbf, cI aC tpu 7 tuf, cI aC tpw 7 tvf, cI aC tpq 128 tqf, cI aC tpt 128 ttf, cI aC xo 8 orf, cI aC xr 7 rf] (va_pl L (plE aC g))) sz) U U.heap ∧ va_T .int tG 5 (fun j => .int (GV j)) (va_A (wp [oX11 h0 xp xtp xn xt xk xl xc xo xto xr xch ts ik st, oX4 xn ek ef ew ep es (nI n) (nI sn) dn, cI aC ek 8 kf, cI aC ef 8 ff, cI aC ew 8 wf, cI aC ep 8 pf, cI aC es 5 stf, oX4 xt tek tef tew tep tes tsz tsy tdn, cI aC tek 8 tkf, cI aC tef 8 tff, cI aC tew 8 twf, cI aC tep 8 tpf, cI aC tes 5 tsf, oX9 xtp tpo tpp tps tpa tpe tpb xt pk tpu tpw tpq tpt tun tfw, cA aC tpo 8 tfo, cA aC tpp 8 tfp, cA aC tps 8 tfs, cK aC pk 7 fk, cO k0 0 [], cO k1 1 [], cO k2 3 [], cO k3 5 [], cO k4 6 [], cO k5 10 [], cO k6 8 [], cI aC tpa 8 tyf, cI aC tpe 8 teg0, cI aC tpb 8 tbf, cI aC tpu 7 tuf, cI aC tpw 7 tvf, cI aC tpq 128 tqf, cI aC tpt 128 ttf, cI aC xo 8 orf, cI aC xr 7 rf] (va_pl L (plE aC g))) sz) U U.heap)) (va_Qi (fun (r : Int32) (u : Int32 × Int32 × Int32 × (Nat → Int32) × (Nat → Int32) × (Nat → Int32) × (Nat → Int32) × (Nat → Int32) × Int32 × Int32 × (Nat → Int32) × (Nat → Int32) × (Nat → Int32) × (Nat → Int32) × (Nat → Int32) × (Nat → Int32) × (Nat → Int32) × (Nat → Nat → Int32) × (Nat → Int32) × (Nat → Int32)) => match u with | (tsz2, tsy2, tdn2, tkf2, tff2, twf2, tpf2, tsf2, tun2, tfw2, tuf2, tvf2, tqf2, ttf2, tbf2, tyf2, teg02, g2, org, rf2) => (∀ a, OFF tro trp trs a → g2 a = g a) ∧ r = rBst n K F W0 S5 i) (fun (u : Int32 × Int32 × Int32 × (Nat → Int32) × (Nat → Int32) × (Nat → Int32) × (Nat → Int32) × (Nat → Int32) × Int32 × Int32 × (Nat → Int32) × (Nat → Int32) × (Nat → Int32) × (Nat → Int32) × (Nat → Int32) × (Nat → Int32) × (Nat → Int32) × (Nat → Nat → Int32) × (Nat → Int32) × (Nat → Int32)) (t : State) => match u with | (tsz2, tsy2, tdn2, tkf2, tff2, twf2, tpf2, tsf2, tun2, tfw2, tuf2, tvf2, tqf2, ttf2, tbf2, tyf2, teg02, g2, org, rf2) => va_P (dC, dI) classes (wp [oX11 h0 xp xtp xn xt xk xl xc xo xto xr xch ts ik st, oX4 xn ek ef ew ep es (nI n) (nI sn) dn, cI aC ek 8 kf, cI aC ef 8 ff, cI aC ew 8 wf, cI aC ep 8 pf, cI aC es 5 stf, oX4 xt tek tef tew tep tes tsz2 tsy2 tdn2, cI aC tek 8 tkf2, cI aC tef 8 tff2, cI aC tew 8 twf2, cI aC tep 8 tpf2, cI aC tes 5 tsf2, oX9 xtp tpo tpp tps tpa tpe tpb xt pk tpu tpw tpq tpt tun2 tfw2, cA aC tpo 8 tfo, cA aC tpp 8 tfp, cA aC tps 8 tfs, cK aC pk 7 fk, cO k0 0 [], cO k1 1 [], cO k2 3 [], cO k3 5 [], cO k4 6 [], cO k5 10 [], cO k6 8 [], cI aC tpa 8 tyf2, cI aC tpe 8 teg02, cI aC tpb 8 tbf2, cI aC tpu 7 tuf2, cI aC tpw 7 tvf2, cI aC tpq 128 tqf2, cI aC tpt 128 ttf2, cI aC xo 8 org, cI aC xr 7 rf2] (va_pl L (plE aC g2))) t.heap ∧ va_K (dC, dI) classes (TY aC) t ∧ va_D (va_A (wp [oX11 h0 xp xtp xn xt xk xl xc xo xto xr xch ts ik st, oX4 xn ek ef ew ep es (nI n) (nI sn) dn, cI aC ek 8 kf, cI aC ef 8 ff, cI aC ew 8 wf, cI aC ep 8 pf, cI aC es 5 stf, oX4 xt tek tef tew tep tes tsz tsy tdn, cI aC tek 8 tkf, cI aC tef 8 tff, cI aC tew 8 twf, cI aC tep 8 tpf, cI aC tes 5 tsf, oX9 xtp tpo tpp tps tpa tpe tpb xt pk tpu tpw tpq tpt tun tfw, cA aC tpo 8 tfo, cA aC tpp 8 tfp, cA aC tps 8 tfs, cK aC pk 7 fk, cO k0 0 [], cO k1 1 [], cO k2 3 [], cO k3 5 [], cO k4 6 [], cO k5 10 [], cO k6 8 [], cI aC tpa 8 tyf, cI aC tpe 8 teg0, cI aC tpb 8 tbf, cI aC tpu 7 tuf, cI aC tpw 7 tvf, cI aC tpq 128 tqf, cI aC tpt 128 ttf, cI aC xo 8 orf, cI aC xr 7 rf] (va_pl L (plE aC g))) sz) (wp [oX11 h0 xp xtp xn xt xk xl xc xo xto xr xch ts ik st, oX4 xn ek ef ew ep es (nI n) (nI sn) dn, cI aC ek 8 kf, cI aC ef 8 ff, cI aC ew 8 wf, cI aC ep 8 pf, cI aC es 5 stf, oX4 xt tek tef tew tep tes tsz2 tsy2 tdn2, cI aC tek 8 tkf2, cI aC tef 8 tff2, cI aC tew 8 twf2, cI aC tep 8 tpf2, cI aC tes 5 tsf2, oX9 xtp tpo tpp tps tpa tpe tpb xt pk tpu tpw tpq tpt tun2 tfw2, cA aC tpo 8 tfo, cA aC tpp 8 tfp, cA aC tps 8 tfs, cK aC pk 7 fk, cO k0 0 [], cO k1 1 [], cO k2 3 [], cO k3 5 [], cO k4 6 [], cO k5 10 [], cO k6 8 [], cI aC tpa 8 tyf2, cI aC tpe 8 teg02, cI aC tpb 8 tbf2, cI aC tpu 7 tuf2, cI aC tpw 7 tvf2, cI aC tpq 128 tqf2, cI aC tpt 128 ttf2, cI aC xo 8 org, cI aC xr 7 rf2] (va_pl L (plE aC g2)))) (va_A (wp [oX11 h0 xp xtp xn xt xk xl xc xo xto xr xch ts ik st, oX4 xn ek ef ew ep es (nI n) (nI sn) dn, cI aC ek 8 kf, cI aC ef 8 ff, cI aC ew 8 wf, cI aC ep 8 pf, cI aC es 5 stf, oX4 xt tek tef tew tep tes tsz tsy tdn, cI aC tek 8 tkf, cI aC tef 8 tff, cI aC tew 8 twf, cI aC tep 8 tpf, cI aC tes 5 tsf, oX9 xtp tpo tpp tps tpa tpe tpb xt pk tpu tpw tpq tpt tun tfw, cA aC tpo 8 tfo, cA aC tpp 8 tfp, cA aC tps 8 tfs, cK aC pk 7 fk, cO k0 0 [], cO k1 1 [], cO k2 3 [], cO k3 5 [], cO k4 6 [], cO k5 10 [], cO k6 8 [], cI aC tpa 8 tyf, cI aC tpe 8 teg0, cI aC tpb 8 tbf, cI aC tpu 7 tuf, cI aC tpw 7 tvf, cI aC tpq 128 tqf, cI aC tpt 128 ttf, cI aC xo 8 orf, cI aC xr 7 rf] (va_pl L (plE aC g))) sz)) 0 0 (va_A (wp [oX11 h0 xp xtp xn xt xk xl xc xo xto xr xch ts ik st, oX4 xn ek ef ew ep es (nI n) (nI sn) dn, cI aC ek 8 kf, cI aC ef 8 ff, cI aC ew 8 wf, cI aC ep 8 pf, cI aC es 5 stf, oX4 xt tek tef tew tep tes tsz tsy tdn, cI aC tek 8 tkf, cI aC tef 8 tff, cI aC tew 8 twf, cI aC tep 8 tpf, cI aC tes 5 tsf, oX9 xtp tpo tpp tps tpa tpe tpb xt pk tpu tpw tpq tpt tun tfw, cA aC tpo 8 tfo, cA aC tpp 8 tfp, cA aC tps 8 tfs, cK aC pk 7 fk, cO k0 0 [], cO k1 1 [], cO k2 3 [], cO k3 5 [], cO k4 6 [], cO k5 10 [], cO k6 8 [], cI aC tpa 8 tyf, cI aC tpe 8 teg0, cI aC tpb 8 tbf, cI aC tpu 7 tuf, cI aC tpw 7 tvf, cI aC tpq 128 tqf, cI aC tpt 128 ttf, cI aC xo 8 orf, cI aC xr 7 rf] (va_pl L (plE aC g))) sz) := by
  refine Met.ofW (cc := cX11_bestAge) (maxL := 5) (ret := (some .int)) (by decide) rfl ?_
  intro p e s m args below meth c s₁ B hml hv
  obtain ⟨rfl, hsz, hP, hK, hD0, hN, hZG, hTG⟩ := hv
  have hx := B.exec
  have hb := B.bytes
  have hr := B.returns
  have hts0 := atoms_spec (ws := (wW yX11_bestAge cX11_bestAge 5 (some .int))) B.pre
  have hts : ∀ w9 ∈ lw_G, w9.before ([Value.ref h0, Value.int i] : List Value).toArray s = true := fun w9 h9 => hts0 w9 (List.mem_cons_of_mem _ h9)
  have hown : s.vm.findClass RX11 = some m.cls := findClass_of_methodNamed (x := yX11_bestAge) B.named
  have hlocks := B.notSynchronized
  subst hsz
  have hD := hD0.self (sz := s.heap.size)
  generalize hAe : va_A (wp [oX11 h0 xp xtp xn xt xk xl xc xo xto xr xch ts ik st, oX4 xn ek ef ew ep es (nI n) (nI sn) dn, cI aC ek 8 kf, cI aC ef 8 ff, cI aC ew 8 wf, cI aC ep 8 pf, cI aC es 5 stf, oX4 xt tek tef tew tep tes tsz tsy tdn, cI aC tek 8 tkf, cI aC tef 8 tff, cI aC tew 8 twf, cI aC tep 8 tpf, cI aC tes 5 tsf, oX9 xtp tpo tpp tps tpa tpe tpb xt pk tpu tpw tpq tpt tun tfw, cA aC tpo 8 tfo, cA aC tpp 8 tfp, cA aC tps 8 tfs, cK aC pk 7 fk, cO k0 0 [], cO k1 1 [], cO k2 3 [], cO k3 5 [], cO k4 6 [], cO k5 10 [], cO k6 8 [], cI aC tpa 8 tyf, cI aC tpe 8 teg0, cI aC tpb 8 tbf, cI aC tpu 7 tuf, cI aC tpw 7 tvf, cI aC tpq 128 tqf, cI aC tpt 128 ttf, cI aC xo 8 orf, cI aC xr 7 rf] (va_pl L (plE aC g))) s.heap.size = A at hZG hTG hD ⊢
  have hA : ∀ q : Nat, s.heap.size ≤ q → A q := fun q h => by rw [← hAe]; exact Or.inr h
  obtain ⟨H, hHe⟩ : ∃ H : Heap, H = s.heap := ⟨_, rfl⟩
  have hS : va_S A s.heap H [] := by rw [hHe]; exact va_S.rf
  have hP : va_P (dC, dI) classes (wp [oX11 h0 xp xtp xn xt xk xl xc xo xto xr xch ts ik st, oX4 xn ek ef ew ep es (nI n) (nI sn) dn, cI aC ek 8 kf, cI aC ef 8 ff, cI aC ew 8 wf, cI aC ep 8 pf, cI aC es 5 stf, oX4 xt tek tef tew tep tes tsz tsy tdn, cI aC tek 8 tkf, cI aC tef 8 tff, cI aC tew 8 twf, cI aC tep 8 tpf, cI aC tes 5 tsf, oX9 xtp tpo tpp tps tpa tpe tpb xt pk tpu tpw tpq tpt tun tfw, cA aC tpo 8 tfo, cA aC tpp 8 tfp, cA aC tps 8 tfs, cK aC pk 7 fk, cO k0 0 [], cO k1 1 [], cO k2 3 [], cO k3 5 [], cO k4 6 [], cO k5 10 [], cO k6 8 [], cI aC tpa 8 tyf, cI aC tpe 8 teg0, cI aC tpb 8 tbf, cI aC tpu 7 tuf, cI aC tpw 7 tvf, cI aC tpq 128 tqf, cI aC tpt 128 ttf, cI aC xo 8 orf, cI aC xr 7 rf] (va_pl L (plE aC g))) H := by rw [hHe]; exact hP
  have hl := lv_entry ([Value.ref h0, Value.int i]) (n := 5) (Nat.le_of_ble_eq_true rfl)
  rw [lg_entry_eq]
  generalize (lg_sl ([Value.ref h0, Value.int i]) ++ List.replicate (5 - (lg_sl ([Value.ref h0, Value.int i])).length) Slot.unset).toArray = ls at hl ⊢
  have hl : lv_has ls 5 [(0, Value.ref h0), (1, Value.int i)] := hl
  rw [← hHe]
  have hn8 := EVS_n hev
  refine lv_aload_n hx hb dX11_bestAge_0 rfl (lv_at hl 0 rfl) ?_
  refine va_get (D := (dC, dI)) (ci := 11) (v := Value.ref xn) (C := RX11) (T := TX11) (N := 14) hx hb hts inX11 hown hK hP 0 rfl rfl 2 (by decide) (hts _ (gw kw_228 rfl)) (fun _ h9 => h9) rfl dX11_bestAge_1 ?_
  refine lv_iload_n hx hb dX11_bestAge_4 rfl (lv_at hl 1 rfl) ?_
  have hpd9 := pdf_N (cx := [oX4 xn ek ef ew ep es (nI n) (nI sn) dn]) hP hD hS hA [1] (by decide) rfl
  have hPc := hpd9.1
  have hDc := hpd9.2.1
  have hFc := hpd9.2.2
  clear hpd9
  refine va_calli (va_runV (As := [Value.int i]) (rest := []) ⟨hx, hb, hml, hown, hts⟩ (c_X4_has l dC dI aC H.size xn ek ef ew ep es (nI n) (nI sn) dn i ) ⟨(callB_of 1 hts (gG kw_340) rfl rfl rfl (hts _ (gw kw_2 rfl)) (hts _ (gw kw_337 rfl)) hd_X4_has ⟨Nat.le_of_ble_eq_true rfl, Nat.le_of_ble_eq_true rfl⟩), (hts _ (gw kw_338 rfl)), (hts _ (gw kw_339 rfl))⟩ ⟨fb_std, va_recv (q := (RX4, TX4, 8)) hK hPc (ci := 4) (q0 := 0) rfl rfl, pre_std hPc hK hDc hN⟩ rfl rfl hl.1 rfl (lv_room (Nat.le_of_ble_eq_true rfl)) dX11_bestAge_5 ⟨Nat.le_of_ble_eq_true rfl, Nat.le_of_ble_eq_true rfl⟩) hS (fun q _ h => hFc q h) hFc (fun x_1 u9 t9 H1 locs ht hvm hw_1 hB hz1 hk1 hS => ?_)
  obtain ⟨hP1, hK1, hD1⟩ := hB
  rw [ht] at hP1
  clear hK1
  try dsimp only at hw_1
  have hpd9 : PDx (dC, dI) classes A H1 (wp [oX11 h0 xp xtp xn xt xk xl xc xo xto xr xch ts ik st, cI aC ek 8 kf, cI aC ef 8 ff, cI aC ew 8 wf, cI aC ep 8 pf, cI aC es 5 stf, oX4 xt tek tef tew tep tes tsz tsy tdn, cI aC tek 8 tkf, cI aC tef 8 tff, cI aC tew 8 twf, cI aC tep 8 tpf, cI aC tes 5 tsf, oX9 xtp tpo tpp tps tpa tpe tpb xt pk tpu tpw tpq tpt tun tfw, cA aC tpo 8 tfo, cA aC tpp 8 tfp, cA aC tps 8 tfs, cK aC pk 7 fk, cO k0 0 [], cO k1 1 [], cO k2 3 [], cO k3 5 [], cO k4 6 [], cO k5 10 [], cO k6 8 [], cI aC tpa 8 tyf, cI aC tpe 8 teg0, cI aC tpb 8 tbf, cI aC tpu 7 tuf, cI aC tpw 7 tvf, cI aC tpq 128 tqf, cI aC tpt 128 ttf, cI aC xo 8 orf, cI aC xr 7 rf, oX4 xn ek ef ew ep es (nI n) (nI sn) dn] (va_pl L (plE aC g))) := jn_Q (wr := [oX11 h0 xp xtp xn xt xk xl xc xo xto xr xch ts ik st, cI aC ek 8 kf, cI aC ef 8 ff, cI aC ew 8 wf, cI aC ep 8 pf, cI aC es 5 stf, oX4 xt tek tef tew tep tes tsz tsy tdn, cI aC tek 8 tkf, cI aC tef 8 tff, cI aC tew 8 twf, cI aC tep 8 tpf, cI aC tes 5 tsf, oX9 xtp tpo tpp tps tpa tpe tpb xt pk tpu tpw tpq tpt tun tfw, cA aC tpo 8 tfo, cA aC tpp 8 tfp, cA aC tps 8 tfs, cK aC pk 7 fk, cO k0 0 [], cO k1 1 [], cO k2 3 [], cO k3 5 [], cO k4 6 [], cO k5 10 [], cO k6 8 [], cI aC tpa 8 tyf, cI aC tpe 8 teg0, cI aC tpb 8 tbf, cI aC tpu 7 tuf, cI aC tpw 7 tvf, cI aC tpq 128 tqf, cI aC tpt 128 ttf, cI aC xo 8 orf, cI aC xr 7 rf]) hFc hk1 hP1 hD1 hP hD [1] [0, 2, 3, 4, 5, 6, 7, 8, 9, 10, 11, 12, 13, 14, 15, 16, 17, 18, 19, 20, 21, 22, 23, 24, 25, 26, 27, 28, 29, 30, 31, 32, 33] rfl rfl (by decide) (by decide)
  have hP := hpd9.1
  have hD := hpd9.2
  clear hpd9
  generalize H1 = H at hP hS ⊢
  clear hPc hDc hFc hz1 hk1 hP1 hD1 ht hvm
  have hz_5 := hw_1
  refine lv_if_ne (tgt := 17) hx hb dX11_bestAge_8 (by decide) (fun c_2 => ?_) (fun c_2 => ?_)
  · obtain ⟨a, ha8, ha9⟩ := OKI_ix hn8 (has_y hz_5 c_2)
    have hl : lv_has ls 5 [(0, Value.ref h0), (1, Value.int (nI a))] := by rw [← ha9]; exact hl
    refine lv_iconst (v := 0) hx hb dX11_bestAge_17 (by decide) ?_
    refine lv_istore_n (lv' := [(2, Value.int 0), (0, Value.ref h0), (1, Value.int (nI a))]) hx hb dX11_bestAge_18 rfl hl (by decide) rfl (fun ls hl => ?_)
    refine lv_iconst (v := -1) hx hb dX11_bestAge_19 (by decide) ?_
    refine lv_istore_n (lv' := [(3, Value.int (-1)), (2, Value.int 0), (0, Value.ref h0), (1, Value.int (nI a))]) hx hb dX11_bestAge_20 rfl hl (by decide) rfl (fun ls hl => ?_)
    refine lv_iconst (v := 0) hx hb dX11_bestAge_21 (by decide) ?_
    refine lv_istore (lv' := [(4, Value.int 0), (3, Value.int (-1)), (2, Value.int 0), (0, Value.ref h0), (1, Value.int (nI a))]) hx hb dX11_bestAge_22 hl (by decide) rfl (fun ls hl => ?_)
    have lp_24 : ∀ (fu : Nat) (j : Nat) (x2 : Int32) (x3 : Int32) (tszc : Int32) (tsyc : Int32) (tdnc : Int32) (tunc : Int32) (tfwc : Int32) (tkfc : Nat → Int32) (tffc : Nat → Int32) (twfc : Nat → Int32) (tpfc : Nat → Int32) (tsfc : Nat → Int32) (tufc : Nat → Int32) (tvfc : Nat → Int32) (tqfc : Nat → Int32) (ttfc : Nat → Int32) (tbfc : Nat → Int32) (tyfc : Nat → Int32) (teg0c : Nat → Int32) (orc : Nat → Int32) (gc : Nat → Nat → Int32) (hfu : n - j < fu) (hj : j ≤ n) (hof : ∀ a, OFF tro trp trs a → gc a = g a) (hb2 : x2 = nI (bsf (bV n K F W0 S5 a) j).1) (hb3 : x3 = (bsf (bV n K F W0 S5 a) j).2) (H : Heap) (locs : List Loc) (ls : Array Slot), va_P (dC, dI) classes (wp [oX11 h0 xp xtp xn xt xk xl xc xo xto xr xch ts ik st, cI aC ek 8 kf, cI aC ef 8 ff, cI aC ew 8 wf, cI aC ep 8 pf, cI aC es 5 stf, oX4 xt tek tef tew tep tes tszc tsyc tdnc, cI aC tek 8 tkfc, cI aC tef 8 tffc, cI aC tew 8 twfc, cI aC tep 8 tpfc, cI aC tes 5 tsfc, oX9 xtp tpo tpp tps tpa tpe tpb xt pk tpu tpw tpq tpt tunc tfwc, cA aC tpo 8 tfo, cA aC tpp 8 tfp, cA aC tps 8 tfs, cK aC pk 7 fk, cO k0 0 [], cO k1 1 [], cO k2 3 [], cO k3 5 [], cO k4 6 [], cO k5 10 [], cO k6 8 [], cI aC tpa 8 tyfc, cI aC tpe 8 teg0c, cI aC tpb 8 tbfc, cI aC tpu 7 tufc, cI aC tpw 7 tvfc, cI aC tpq 128 tqfc, cI aC tpt 128 ttfc, cI aC xo 8 orc, cI aC xr 7 rf, oX4 xn ek ef ew ep es (nI n) (nI sn) dn] (va_pl L (plE aC gc))) H → va_D A (wp [oX11 h0 xp xtp xn xt xk xl xc xo xto xr xch ts ik st, cI aC ek 8 kf, cI aC ef 8 ff, cI aC ew 8 wf, cI aC ep 8 pf, cI aC es 5 stf, oX4 xt tek tef tew tep tes tszc tsyc tdnc, cI aC tek 8 tkfc, cI aC tef 8 tffc, cI aC tew 8 twfc, cI aC tep 8 tpfc, cI aC tes 5 tsfc, oX9 xtp tpo tpp tps tpa tpe tpb xt pk tpu tpw tpq tpt tunc tfwc, cA aC tpo 8 tfo, cA aC tpp 8 tfp, cA aC tps 8 tfs, cK aC pk 7 fk, cO k0 0 [], cO k1 1 [], cO k2 3 [], cO k3 5 [], cO k4 6 [], cO k5 10 [], cO k6 8 [], cI aC tpa 8 tyfc, cI aC tpe 8 teg0c, cI aC tpb 8 tbfc, cI aC tpu 7 tufc, cI aC tpw 7 tvfc, cI aC tpq 128 tqfc, cI aC tpt 128 ttfc, cI aC xo 8 orc, cI aC xr 7 rf, oX4 xn ek ef ew ep es (nI n) (nI sn) dn] (va_pl L (plE aC gc))) → va_S A s.heap H locs → lv_has ls 5 [(0, Value.ref h0), (1, Value.int (nI a)), (2, Value.int x2), (3, Value.int x3), (4, Value.int (nI j))] → W p l e (headSpec (wW yX11_bestAge cX11_bestAge 5 (some .int)) ({ frames := 6, cells := 0, slots := 0, locals := 131 } : Room)).room s m ([Value.ref h0, Value.int i] : List Value).toArray below meth c H locs 0 0 (MQ below (va_Qi (fun (r : Int32) (u : Int32 × Int32 × Int32 × (Nat → Int32) × (Nat → Int32) × (Nat → Int32) × (Nat → Int32) × (Nat → Int32) × Int32 × Int32 × (Nat → Int32) × (Nat → Int32) × (Nat → Int32) × (Nat → Int32) × (Nat → Int32) × (Nat → Int32) × (Nat → Int32) × (Nat → Nat → Int32) × (Nat → Int32) × (Nat → Int32)) => match u with | (tsz2, tsy2, tdn2, tkf2, tff2, twf2, tpf2, tsf2, tun2, tfw2, tuf2, tvf2, tqf2, ttf2, tbf2, tyf2, teg02, g2, org, rf2) => (∀ a, OFF tro trp trs a → g2 a = g a) ∧ r = rBst n K F W0 S5 i) (fun (u : Int32 × Int32 × Int32 × (Nat → Int32) × (Nat → Int32) × (Nat → Int32) × (Nat → Int32) × (Nat → Int32) × Int32 × Int32 × (Nat → Int32) × (Nat → Int32) × (Nat → Int32) × (Nat → Int32) × (Nat → Int32) × (Nat → Int32) × (Nat → Int32) × (Nat → Nat → Int32) × (Nat → Int32) × (Nat → Int32)) (t : State) => match u with | (tsz2, tsy2, tdn2, tkf2, tff2, twf2, tpf2, tsf2, tun2, tfw2, tuf2, tvf2, tqf2, ttf2, tbf2, tyf2, teg02, g2, org, rf2) => va_P (dC, dI) classes (wp [oX11 h0 xp xtp xn xt xk xl xc xo xto xr xch ts ik st, oX4 xn ek ef ew ep es (nI n) (nI sn) dn, cI aC ek 8 kf, cI aC ef 8 ff, cI aC ew 8 wf, cI aC ep 8 pf, cI aC es 5 stf, oX4 xt tek tef tew tep tes tsz2 tsy2 tdn2, cI aC tek 8 tkf2, cI aC tef 8 tff2, cI aC tew 8 twf2, cI aC tep 8 tpf2, cI aC tes 5 tsf2, oX9 xtp tpo tpp tps tpa tpe tpb xt pk tpu tpw tpq tpt tun2 tfw2, cA aC tpo 8 tfo, cA aC tpp 8 tfp, cA aC tps 8 tfs, cK aC pk 7 fk, cO k0 0 [], cO k1 1 [], cO k2 3 [], cO k3 5 [], cO k4 6 [], cO k5 10 [], cO k6 8 [], cI aC tpa 8 tyf2, cI aC tpe 8 teg02, cI aC tpb 8 tbf2, cI aC tpu 7 tuf2, cI aC tpw 7 tvf2, cI aC tpq 128 tqf2, cI aC tpt 128 ttf2, cI aC xo 8 org, cI aC xr 7 rf2] (va_pl L (plE aC g2))) t.heap ∧ va_K (dC, dI) classes (TY aC) t ∧ va_D A (wp [oX11 h0 xp xtp xn xt xk xl xc xo xto xr xch ts ik st, oX4 xn ek ef ew ep es (nI n) (nI sn) dn, cI aC ek 8 kf, cI aC ef 8 ff, cI aC ew 8 wf, cI aC ep 8 pf, cI aC es 5 stf, oX4 xt tek tef tew tep tes tsz2 tsy2 tdn2, cI aC tek 8 tkf2, cI aC tef 8 tff2, cI aC tew 8 twf2, cI aC tep 8 tpf2, cI aC tes 5 tsf2, oX9 xtp tpo tpp tps tpa tpe tpb xt pk tpu tpw tpq tpt tun2 tfw2, cA aC tpo 8 tfo, cA aC tpp 8 tfp, cA aC tps 8 tfs, cK aC pk 7 fk, cO k0 0 [], cO k1 1 [], cO k2 3 [], cO k3 5 [], cO k4 6 [], cO k5 10 [], cO k6 8 [], cI aC tpa 8 tyf2, cI aC tpe 8 teg02, cI aC tpb 8 tbf2, cI aC tpu 7 tuf2, cI aC tpw 7 tvf2, cI aC tpq 128 tqf2, cI aC tpt 128 ttf2, cI aC xo 8 org, cI aC xr 7 rf2] (va_pl L (plE aC g2)))) A) ([Value.ref h0, Value.int i] : List Value).toArray s 0 0 A) (F0 m 24 ls []) := by
      intro fu
      induction fu with
      | zero => intro j x2 x3 tszc tsyc tdnc tunc tfwc tkfc tffc twfc tpfc tsfc tufc tvfc tqfc ttfc tbfc tyfc teg0c orc gc hfu; exact absurd hfu (Nat.not_lt_zero _)
      | succ fu ih_24 =>
        intro j x2 x3 tszc tsyc tdnc tunc tfwc tkfc tffc twfc tpfc tsfc tufc tvfc tqfc ttfc tbfc tyfc teg0c orc gc hfu hj hof hb2 hb3 H locs ls hP hD hS hl
        refine lv_iload hx hb dX11_bestAge_24 (lv_at hl 4 rfl) ?_
        refine lv_aload_n hx hb dX11_bestAge_26 rfl (lv_at hl 0 rfl) ?_
        refine va_get (D := (dC, dI)) (ci := 11) (v := Value.ref xn) (C := RX11) (T := TX11) (N := 14) hx hb hts inX11 hown hK hP 0 rfl rfl 2 (by decide) (hts _ (gw kw_228 rfl)) (fun _ h9 => h9) rfl dX11_bestAge_27 ?_
        refine va_get (D := (dC, dI)) (ci := 4) (v := Value.int (nI n)) (C := RX4) (T := TX4) (N := 8) hx hb hts inX4 hown hK hP 33 rfl rfl 5 (by decide) (hts _ (gw kw_50 rfl)) (fun _ h9 => h9) rfl dX11_bestAge_30 ?_
        refine lv_icmp_ge (tgt := 93) hx hb dX11_bestAge_33 (by decide) (fun c_3 => ?_) (fun c_3 => ?_)
        · have hjn : j = n := by
            rcases Nat.lt_or_ge j n with q | q
            · exact absurd c_3 (nI_ge q (by omega))
            · omega
          refine lv_iload_n hx hb dX11_bestAge_93 rfl (lv_at hl 2 rfl) ?_
          have hpd9 := pd_P (cx := [oX11 h0 xp xtp xn xt xk xl xc xo xto xr xch ts ik st, oX4 xn ek ef ew ep es (nI n) (nI sn) dn, cI aC ek 8 kf, cI aC ef 8 ff, cI aC ew 8 wf, cI aC ep 8 pf, cI aC es 5 stf, oX4 xt tek tef tew tep tes tszc tsyc tdnc, cI aC tek 8 tkfc, cI aC tef 8 tffc, cI aC tew 8 twfc, cI aC tep 8 tpfc, cI aC tes 5 tsfc, oX9 xtp tpo tpp tps tpa tpe tpb xt pk tpu tpw tpq tpt tunc tfwc, cA aC tpo 8 tfo, cA aC tpp 8 tfp, cA aC tps 8 tfs, cK aC pk 7 fk, cO k0 0 [], cO k1 1 [], cO k2 3 [], cO k3 5 [], cO k4 6 [], cO k5 10 [], cO k6 8 [], cI aC tpa 8 tyfc, cI aC tpe 8 teg0c, cI aC tpb 8 tbfc, cI aC tpu 7 tufc, cI aC tpw 7 tvfc, cI aC tpq 128 tqfc, cI aC tpt 128 ttfc, cI aC xo 8 orc, cI aC xr 7 rf]) hP hD [0, 33, 1, 2, 3, 4, 5, 6, 7, 8, 9, 10, 11, 12, 13, 14, 15, 16, 17, 18, 19, 20, 21, 22, 23, 24, 25, 26, 27, 28, 29, 30, 31, 32] (by decide) rfl
          have hP9 := hpd9.1
          have hD9 := hpd9.2
          refine W.widen (k := 0) (n := 0) (by omega) (by omega) ?_
          exact W.iret (v := x2) hx hb hr (fun t ht hW => ⟨⟨x2, (tszc, tsyc, tdnc, tkfc, tffc, twfc, tpfc, tsfc, tunc, tfwc, tufc, tvfc, tqfc, ttfc, tbfc, tyfc, teg0c, gc, orc, rf), rfl, ⟨hof, by rw [hb2, hjn]; unfold rBst; rw [if_pos (has_y hz_5 c_2), ha9, nI_clamp (by omega)]⟩, by rw [ht]; exact hP9, va_K.moved hW.alike hK, hD9⟩, hS.F ht⟩) hS.2.2 dX11_bestAge_94
        · have hlt : j < n := by
            rcases Nat.lt_or_ge j n with q | q
            · exact q
            · exact absurd (nI_le q (by omega)) c_3
          refine lv_aload_n hx hb dX11_bestAge_36 rfl (lv_at hl 0 rfl) ?_
          refine lv_iload_n hx hb dX11_bestAge_37 rfl (lv_at hl 1 rfl) ?_
          refine lv_iload hx hb dX11_bestAge_38 (lv_at hl 4 rfl) ?_
          have hpd9 := pdf_N (cx := [oX11 h0 xp xtp xn xt xk xl xc xo xto xr xch ts ik st, oX4 xn ek ef ew ep es (nI n) (nI sn) dn, cI aC xo 8 orc]) hP hD hS hA [0, 33, 31] (by decide) rfl
          have hPc := hpd9.1
          have hDc := hpd9.2.1
          have hFc := hpd9.2.2
          clear hpd9
          refine va_callv (va_runV (As := [Value.int (nI a), Value.int (nI j)]) (rest := []) ⟨hx, hb, hml, hown, hts⟩ (c_X11_orderWith l dC dI aC H.size h0 xp xtp xn xt xk xl xc xo xto xr xch ts ik st ek ef ew ep es n sn dn orc a j (hn8) (ha8) (hlt)) ⟨(callB_of 2 hts (gG kw_629) rfl rfl rfl (hts _ (gw kw_1 rfl)) (hts _ (gw kw_626 rfl)) hd_X11_orderWith ⟨Nat.le_of_ble_eq_true rfl, Nat.le_of_ble_eq_true rfl⟩), (hts _ (gw kw_628 rfl)), (hts _ (gw ks_28 rfl))⟩ ⟨fb_std, va_recv (q := (RX11, TX11, 14)) hK hPc (ci := 11) (q0 := 0) rfl rfl, pre_std hPc hK hDc hN⟩ rfl rfl hl.1 rfl (lv_room (Nat.le_of_ble_eq_true rfl)) dX11_bestAge_40 ⟨Nat.le_of_ble_eq_true rfl, Nat.le_of_ble_eq_true rfl⟩) hS (fun q _ h => hFc q h) hFc (fun u9 t9 H1 locs ht hvm hw_4 hB hz1 hk1 hS => ?_)
          obtain ⟨u_5, rfl⟩ : ∃ z, z = u9 := ⟨_, rfl⟩
          obtain ⟨hP1, hK1, hD1⟩ := hB
          rw [ht] at hP1
          clear hK1
          try dsimp only at hw_4
          have hpd9 : PDx (dC, dI) classes A H1 (wp [cI aC ek 8 kf, cI aC ef 8 ff, cI aC ew 8 wf, cI aC ep 8 pf, cI aC es 5 stf, oX4 xt tek tef tew tep tes tszc tsyc tdnc, cI aC tek 8 tkfc, cI aC tef 8 tffc, cI aC tew 8 twfc, cI aC tep 8 tpfc, cI aC tes 5 tsfc, oX9 xtp tpo tpp tps tpa tpe tpb xt pk tpu tpw tpq tpt tunc tfwc, cA aC tpo 8 tfo, cA aC tpp 8 tfp, cA aC tps 8 tfs, cK aC pk 7 fk, cO k0 0 [], cO k1 1 [], cO k2 3 [], cO k3 5 [], cO k4 6 [], cO k5 10 [], cO k6 8 [], cI aC tpa 8 tyfc, cI aC tpe 8 teg0c, cI aC tpb 8 tbfc, cI aC tpu 7 tufc, cI aC tpw 7 tvfc, cI aC tpq 128 tqfc, cI aC tpt 128 ttfc, cI aC xr 7 rf, oX11 h0 xp xtp xn xt xk xl xc xo xto xr xch ts ik st, oX4 xn ek ef ew ep es (nI n) (nI sn) dn, cI aC xo 8 u_5] (va_pl L (plE aC gc))) := jn_Q (wr := [cI aC ek 8 kf, cI aC ef 8 ff, cI aC ew 8 wf, cI aC ep 8 pf, cI aC es 5 stf, oX4 xt tek tef tew tep tes tszc tsyc tdnc, cI aC tek 8 tkfc, cI aC tef 8 tffc, cI aC tew 8 twfc, cI aC tep 8 tpfc, cI aC tes 5 tsfc, oX9 xtp tpo tpp tps tpa tpe tpb xt pk tpu tpw tpq tpt tunc tfwc, cA aC tpo 8 tfo, cA aC tpp 8 tfp, cA aC tps 8 tfs, cK aC pk 7 fk, cO k0 0 [], cO k1 1 [], cO k2 3 [], cO k3 5 [], cO k4 6 [], cO k5 10 [], cO k6 8 [], cI aC tpa 8 tyfc, cI aC tpe 8 teg0c, cI aC tpb 8 tbfc, cI aC tpu 7 tufc, cI aC tpw 7 tvfc, cI aC tpq 128 tqfc, cI aC tpt 128 ttfc, cI aC xr 7 rf]) hFc hk1 hP1 hD1 hP hD [0, 33, 31] [1, 2, 3, 4, 5, 6, 7, 8, 9, 10, 11, 12, 13, 14, 15, 16, 17, 18, 19, 20, 21, 22, 23, 24, 25, 26, 27, 28, 29, 30, 32] rfl rfl (by decide) (by decide)
          have hP := hpd9.1
          have hD := hpd9.2
          clear hpd9
          generalize H1 = H at hP hS ⊢
          clear hPc hDc hFc hz1 hk1 hP1 hD1 ht hvm
          have hor := hw_4
          refine lv_aload_n hx hb dX11_bestAge_43 rfl (lv_at hl 0 rfl) ?_
          have hpd9 := pdf_N (cx := [oX11 h0 xp xtp xn xt xk xl xc xo xto xr xch ts ik st, oX4 xn ek ef ew ep es (nI n) (nI sn) dn, cI aC ek 8 kf, cI aC ef 8 ff, cI aC ew 8 wf, cI aC ep 8 pf, cI aC es 5 stf, oX4 xt tek tef tew tep tes tszc tsyc tdnc, cI aC tek 8 tkfc, cI aC tef 8 tffc, cI aC tew 8 twfc, cI aC tep 8 tpfc, cI aC tes 5 tsfc, cI aC xo 8 u_5]) hP hD hS hA [31, 32, 0, 1, 2, 3, 4, 5, 6, 7, 8, 9, 10, 33] (by decide) rfl
          have hPc := hpd9.1
          have hDc := hpd9.2.1
          have hFc := hpd9.2.2
          clear hpd9
          refine va_callv (va_runV (As := []) (rest := []) ⟨hx, hb, hml, hown, hts⟩ (c_X11_seat l dC dI aC H.size h0 xp xtp xn xt xk xl xc xo xto xr xch ts ik st ek ef ew ep es n sn dn kf ff wf pf stf tek tef tew tep tes tszc tsyc tdnc tkfc tffc twfc tpfc tsfc u_5 tG (hn8) (hev.2.2.2.2)) ⟨(callB_of 0 hts (gG kw_621) rfl rfl rfl (hts _ (gw kw_1 rfl)) (hts _ (gw kw_618 rfl)) hd_X11_seat ⟨Nat.le_of_ble_eq_true rfl, Nat.le_of_ble_eq_true rfl⟩), (hts _ (gw kw_620 rfl)), (hts _ (gw ks_27 rfl))⟩ ⟨fun a U g mk q => by obtain ⟨q0, q1, qP, qK, qD, qN, z0, z1⟩ := q; exact ⟨q0, q1, qP, va_K.moved (u := U) (U := U.calling g mk a) (Vm.Alike.refl U.vm) qK, qD, NX.same (u := U) (U := U.calling g mk a) rfl qN, va_Z.moved (u := U) (U := U.calling g mk a) (Vm.Alike.refl U.vm) z0, va_T.moved (u := U) (U := U.calling g mk a) (Vm.Alike.refl U.vm) z1⟩, va_recv (q := (RX11, TX11, 14)) hK hPc (ci := 11) (q0 := 0) rfl rfl, fun U hU hW => ⟨rfl, by rw [hU], by rw [hU]; exact hPc, va_K.moved hW.alike hK, hDc.weaken (fun _ _ _ _ => trivial), NX.warm hW hN, by rw [hU]; exact va_Z.moved hW.alike (va_Z.narrow (va_Z.kept hZG hS.2.1) hFc), by rw [hU]; exact va_T.moved hW.alike (va_T.narrow (va_T.kept hTG hS.2.1) hFc)⟩⟩ rfl rfl hl.1 rfl (lv_room (Nat.le_of_ble_eq_true rfl)) dX11_bestAge_44 ⟨Nat.le_of_ble_eq_true rfl, Nat.le_of_ble_eq_true rfl⟩) hS (fun q _ h => hFc q h) hFc (fun u9 t9 H1 locs ht hvm hw_6 hB hz1 hk1 hS => ?_)
          obtain ⟨u_7, u_8, u_9, u_10, u_11⟩ := u9
          obtain ⟨hP1, hK1, hD1⟩ := hB
          rw [ht] at hP1
          clear hK1
          try dsimp only at hw_6
          have hpd9 : PDx (dC, dI) classes A H1 (wp [oX9 xtp tpo tpp tps tpa tpe tpb xt pk tpu tpw tpq tpt tunc tfwc, cA aC tpo 8 tfo, cA aC tpp 8 tfp, cA aC tps 8 tfs, cK aC pk 7 fk, cO k0 0 [], cO k1 1 [], cO k2 3 [], cO k3 5 [], cO k4 6 [], cO k5 10 [], cO k6 8 [], cI aC tpa 8 tyfc, cI aC tpe 8 teg0c, cI aC tpb 8 tbfc, cI aC tpu 7 tufc, cI aC tpw 7 tvfc, cI aC tpq 128 tqfc, cI aC tpt 128 ttfc, cI aC xr 7 rf, oX11 h0 xp xtp xn xt xk xl xc xo xto xr xch ts ik st, oX4 xn ek ef ew ep es (nI n) (nI sn) dn, cI aC ek 8 kf, cI aC ef 8 ff, cI aC ew 8 wf, cI aC ep 8 pf, cI aC es 5 stf, oX4 xt tek tef tew tep tes (nI n) (nI sn) dn, cI aC tek 8 u_7, cI aC tef 8 u_8, cI aC tew 8 u_9, cI aC tep 8 u_10, cI aC tes 5 u_11, cI aC xo 8 u_5] (va_pl L (plE aC gc))) := jn_Q (wr := [oX9 xtp tpo tpp tps tpa tpe tpb xt pk tpu tpw tpq tpt tunc tfwc, cA aC tpo 8 tfo, cA aC tpp 8 tfp, cA aC tps 8 tfs, cK aC pk 7 fk, cO k0 0 [], cO k1 1 [], cO k2 3 [], cO k3 5 [], cO k4 6 [], cO k5 10 [], cO k6 8 [], cI aC tpa 8 tyfc, cI aC tpe 8 teg0c, cI aC tpb 8 tbfc, cI aC tpu 7 tufc, cI aC tpw 7 tvfc, cI aC tpq 128 tqfc, cI aC tpt 128 ttfc, cI aC xr 7 rf]) hFc hk1 hP1 hD1 hP hD [31, 32, 0, 1, 2, 3, 4, 5, 6, 7, 8, 9, 10, 33] [11, 12, 13, 14, 15, 16, 17, 18, 19, 20, 21, 22, 23, 24, 25, 26, 27, 28, 29, 30] rfl rfl (by decide) (by decide)
          have hP := hpd9.1
          have hD := hpd9.2
          clear hpd9
          generalize H1 = H at hP hS ⊢
          clear hPc hDc hFc hz1 hk1 hP1 hD1 ht hvm
          have hc8 := hw_6
          refine lv_aload_n hx hb dX11_bestAge_47 rfl (lv_at hl 0 rfl) ?_
          refine va_get (D := (dC, dI)) (ci := 11) (v := Value.ref xtp) (C := RX11) (T := TX11) (N := 14) hx hb hts inX11 hown hK hP 20 rfl rfl 1 (by decide) (hts _ (gw kw_227 rfl)) (fun _ h9 => h9) rfl dX11_bestAge_48 ?_
          refine lv_iconst (v := 0) hx hb dX11_bestAge_51 (by decide) ?_
          have hev9 := EVS_pm (s := bo a j) (tk := u_7) (tf := u_8) (tw := u_9) hev (fun q hq => bo_lt ha8 hlt hq) (fun q hq => by rw [hc8.1 q (by omega), if_pos hq, sgb hn8 (bo_lt ha8 hlt hq) (hor q hq)]) (fun q hq => by rw [hc8.2.1 q (by omega), if_pos hq, sgb hn8 (bo_lt ha8 hlt hq) (hor q hq)]) (fun q hq => by rw [hc8.2.2.1 q (by omega), if_pos hq, sgb hn8 (bo_lt ha8 hlt hq) (hor q hq)]) hc8.2.2.2.2
          refine lv_topi (fun x_12 e_12 => ?_)
          have h9 : x_12 = nI 0 := by rw [e_12]; rfl
          subst h9
          have hpd9 := pdf_P (cx := [oX9 xtp tpo tpp tps tpa tpe tpb xt pk tpu tpw tpq tpt tunc tfwc, oX4 xt tek tef tew tep tes (nI n) (nI sn) dn, cI aC tek 8 u_7, cI aC tef 8 u_8, cI aC tew 8 u_9, cI aC tes 5 u_11, cA aC tpo 8 tfo, cA aC tpp 8 tfp, cA aC tps 8 tfs, cK aC pk 7 fk, cO k0 0 [], cO k1 1 [], cO k2 3 [], cO k3 5 [], cO k4 6 [], cO k5 10 [], cO k6 8 [], cI aC tpa 8 tyfc, cI aC tpe 8 teg0c, cI aC tpb 8 tbfc, cI aC tpu 7 tufc, cI aC tpw 7 tvfc, cI aC tpq 128 tqfc, cI aC tpt 128 ttfc]) hP hD hS hA [0, 27, 28, 29, 30, 32, 1, 2, 3, 4, 5, 6, 7, 8, 9, 10, 11, 12, 13, 14, 15, 16, 17, 18] (by decide) rfl
          have hPc := hpd9.1
          have hDc := hpd9.2.1
          have hFc := hpd9.2.2
          clear hpd9
          refine va_callv (va_runV (As := [Value.int (nI 0)]) (rest := []) ⟨hx, hb, hml, hown, hts⟩ (c_X9_solve l dC dI aC H.size xtp tpo tpp tps tpa tpe tpb xt pk tpu tpw tpq tpt tunc tfwc tek tef tew tep tes n (nI sn) dn u_7 u_8 u_9 u_11 (fun q => K (bo a j q)) (fun q => F (bo a j q)) (fun q => W0 (bo a j q)) (S5 0) L gc tfo tfp tfs tro trp trs fk k0 k1 k2 k3 k4 k5 k6 (PO n (fun q => K (bo a j q)) (fun q => F (bo a j q)) (fun q => W0 (bo a j q)) S5) 0 tufc tvfc tqfc ttfc tbfc tyfc teg0c (htg) (hev9.1) (hkd) (PO_cl hev9) (by omega)) ⟨(callB_of 1 hts (gG kw_357) rfl rfl rfl (hts _ (gw kw_11 rfl)) (hts _ (gw kw_354 rfl)) hd_X9_solve ⟨Nat.le_of_ble_eq_true rfl, Nat.le_of_ble_eq_true rfl⟩), (hts _ (gw kw_355 rfl)), (hts _ (gw kw_356 rfl))⟩ ⟨fb_std, va_recv (q := (RX9, TX9, 14)) hK hPc (ci := 9) (q0 := 0) rfl rfl, pre_std hPc hK hDc hN⟩ rfl rfl hl.1 rfl (lv_room (Nat.le_of_ble_eq_true rfl)) dX11_bestAge_52 ⟨Nat.le_of_ble_eq_true rfl, Nat.le_of_ble_eq_true rfl⟩) hS (fun q _ h => hFc q h) hFc (fun u9 t9 H1 locs ht hvm hw_13 hB hz1 hk1 hS => ?_)
          obtain ⟨u_14, u_15, u_16, u_17, u_18, u_19, u_20, u_21, u_22, u_23⟩ := u9
          obtain ⟨hP1, hK1, hD1⟩ := hB
          rw [ht] at hP1
          clear hK1
          try dsimp only at hw_13
          have hpd9 : PDx (dC, dI) classes A H1 (wp [cI aC xr 7 rf, oX11 h0 xp xtp xn xt xk xl xc xo xto xr xch ts ik st, oX4 xn ek ef ew ep es (nI n) (nI sn) dn, cI aC ek 8 kf, cI aC ef 8 ff, cI aC ew 8 wf, cI aC ep 8 pf, cI aC es 5 stf, cI aC tep 8 u_10, cI aC xo 8 u_5, oX9 xtp tpo tpp tps tpa tpe tpb xt pk tpu tpw tpq tpt u_14 u_15, oX4 xt tek tef tew tep tes (nI n) (nI sn) dn, cI aC tek 8 u_7, cI aC tef 8 u_8, cI aC tew 8 u_9, cI aC tes 5 u_11, cA aC tpo 8 tfo, cA aC tpp 8 tfp, cA aC tps 8 tfs, cK aC pk 7 fk, cO k0 0 [], cO k1 1 [], cO k2 3 [], cO k3 5 [], cO k4 6 [], cO k5 10 [], cO k6 8 [], cI aC tpa 8 u_21, cI aC tpe 8 u_22, cI aC tpb 8 u_20, cI aC tpu 7 u_16, cI aC tpw 7 u_17, cI aC tpq 128 u_18, cI aC tpt 128 u_19] (va_pl L (plE aC u_23))) := jn_P (wr := [cI aC xr 7 rf, oX11 h0 xp xtp xn xt xk xl xc xo xto xr xch ts ik st, oX4 xn ek ef ew ep es (nI n) (nI sn) dn, cI aC ek 8 kf, cI aC ef 8 ff, cI aC ew 8 wf, cI aC ep 8 pf, cI aC es 5 stf, cI aC tep 8 u_10, cI aC xo 8 u_5]) hFc hk1 hP1 hD1 hP hD [0, 27, 28, 29, 30, 32, 1, 2, 3, 4, 5, 6, 7, 8, 9, 10, 11, 12, 13, 14, 15, 16, 17, 18] [19, 20, 21, 22, 23, 24, 25, 26, 31, 33] rfl rfl (by decide) (by decide)
          have hP := hpd9.1
          have hD := hpd9.2
          clear hpd9
          generalize H1 = H at hP hS ⊢
          clear hPc hDc hFc hz1 hk1 hP1 hD1 ht hvm
          obtain ⟨ht1, ht2⟩ := hw_13
          have hof2 : ∀ a, OFF tro trp trs a → u_23 a = g a := fun a ha => (ht2 a ha).trans (hof a ha)
          refine lv_aload_n hx hb dX11_bestAge_55 rfl (lv_at hl 0 rfl) ?_
          refine va_get (D := (dC, dI)) (ci := 11) (v := Value.ref xtp) (C := RX11) (T := TX11) (N := 14) hx hb hts inX11 hown hK hP 1 rfl rfl 1 (by decide) (hts _ (gw kw_227 rfl)) (fun _ h9 => h9) rfl dX11_bestAge_56 ?_
          refine va_get (D := (dC, dI)) (ci := 9) (v := Value.ref tps) (C := RX9) (T := TX9) (N := 14) hx hb hts inX9 hown hK hP 10 rfl rfl 2 (by decide) (hts _ (gw kw_155 rfl)) (fun _ h9 => h9) rfl dX11_bestAge_59 ?_
          refine lv_iconst (v := 0) hx hb dX11_bestAge_62 (by decide) ?_
          refine lv_topi (fun x_24 e_24 => ?_)
          have h9 : x_24 = nI 0 := by rw [e_24]; rfl
          subst h9
          have h_25 : vp_in (nI 0) 8 := by first | exact vp_in_nI (by omega) (by omega) | (unfold vp_in; decide) | (subst_vars; first | (unfold vp_in; decide) | exact vp_in_nI (by omega) (by omega))
          refine va_alda (r := trs 0) hx hb hK hP 18 rfl h_25 (by rw [nI_clamp (by omega)]; exact (htg.1 0 (by omega)).2.2.1) dX11_bestAge_63 ?_
          refine lv_iload hx hb dX11_bestAge_64 (lv_at hl 4 rfl) ?_
          have h_26 : vp_in (nI j) 8 := by first | exact vp_in_nI (by omega) (by omega) | (unfold vp_in; decide) | (subst_vars; first | (unfold vp_in; decide) | exact vp_in_nI (by omega) (by omega))
          refine pl_iald hx hb hK hP ((htg.1 0 (by omega)).2.2.2) h_26 dX11_bestAge_66 ?_
          refine lv_topi (fun x_27 e_27 => ?_)
          have hv1 : x_27 = (bV n K F W0 S5 a) j := by rw [e_27, nI_clamp (by omega)]; exact (ht1 0 (by omega) (by omega)).2.2.1 j (by omega)
          refine lv_iload_n hx hb dX11_bestAge_67 rfl (lv_at hl 3 rfl) ?_
          refine lv_icmp_le (tgt := 87) hx hb dX11_bestAge_68 (by decide) (fun c_28 => ?_) (fun c_28 => ?_)
          · have hbs := bsf_n hv1 hb3 c_28
            have hc2 : x2 = nI (bsf (bV n K F W0 S5 a) (j + 1)).1 := by rw [hbs]; exact hb2
            have hc3 : x3 = (bsf (bV n K F W0 S5 a) (j + 1)).2 := by rw [hbs]; exact hb3
            obtain ⟨x_29, e_29⟩ : ∃ y : Int32, y = (nI j) + 1 := ⟨_, rfl⟩
            refine lv_iinc (v := x_29) (lv' := [(4, Value.int x_29), (0, Value.ref h0), (1, Value.int (nI a)), (2, Value.int x2), (3, Value.int x3)]) hx hb dX11_bestAge_87 hl (k := 4) rfl (by rw [e_29]; rfl) (by decide) rfl (fun ls hl => ?_)
            have h9 : x_29 = nI (j + 1) := by rw [e_29, nI_1]
            subst h9
            refine lv_goto (tgt := 24) hx hb dX11_bestAge_90 (by decide) ?_
            exact ih_24 (j + 1) x2 x3 (nI n) (nI sn) dn u_14 u_15 u_7 u_8 u_9 u_10 u_11 u_16 u_17 u_18 u_19 u_20 u_21 u_22 u_5 u_23 (ms_lt hlt hfu) (by omega) (hof2) (hc2) (hc3) _ _ _ (plP hP [1, 3, 4, 5, 6, 7, 11, 12, 13, 14, 8, 15, 10, 16, 17, 18, 19, 20, 21, 22, 23, 24, 25, 26, 27, 28, 29, 30, 31, 32, 33, 9, 0, 2] rfl) (plD hD [1, 3, 4, 5, 6, 7, 11, 12, 13, 14, 8, 15, 10, 16, 17, 18, 19, 20, 21, 22, 23, 24, 25, 26, 27, 28, 29, 30, 31, 32, 33, 9, 0, 2] (by decide) rfl) hS (lv_sub hl [1, 2, 3, 4, 0] rfl)
          · refine lv_aload_n hx hb dX11_bestAge_71 rfl (lv_at hl 0 rfl) ?_
            refine va_get (D := (dC, dI)) (ci := 11) (v := Value.ref xtp) (C := RX11) (T := TX11) (N := 14) hx hb hts inX11 hown hK hP 1 rfl rfl 1 (by decide) (hts _ (gw kw_227 rfl)) (fun _ h9 => h9) rfl dX11_bestAge_72 ?_
            refine va_get (D := (dC, dI)) (ci := 9) (v := Value.ref tps) (C := RX9) (T := TX9) (N := 14) hx hb hts inX9 hown hK hP 10 rfl rfl 2 (by decide) (hts _ (gw kw_155 rfl)) (fun _ h9 => h9) rfl dX11_bestAge_75 ?_
            refine lv_iconst (v := 0) hx hb dX11_bestAge_78 (by decide) ?_
            refine lv_topi (fun x_30 e_30 => ?_)
            have h9 : x_30 = nI 0 := by rw [e_30]; rfl
            subst h9
            have h_31 : vp_in (nI 0) 8 := by first | exact vp_in_nI (by omega) (by omega) | (unfold vp_in; decide) | (subst_vars; first | (unfold vp_in; decide) | exact vp_in_nI (by omega) (by omega))
            refine va_alda (r := trs 0) hx hb hK hP 18 rfl h_31 (by rw [nI_clamp (by omega)]; exact (htg.1 0 (by omega)).2.2.1) dX11_bestAge_79 ?_
            refine lv_iload hx hb dX11_bestAge_80 (lv_at hl 4 rfl) ?_
            have h_32 : vp_in (nI j) 8 := by first | exact vp_in_nI (by omega) (by omega) | (unfold vp_in; decide) | (subst_vars; first | (unfold vp_in; decide) | exact vp_in_nI (by omega) (by omega))
            refine pl_iald hx hb hK hP ((htg.1 0 (by omega)).2.2.2) h_32 dX11_bestAge_82 ?_
            refine lv_topi (fun x_33 e_33 => ?_)
            have hv2 : x_33 = (bV n K F W0 S5 a) j := by rw [e_33, nI_clamp (by omega)]; exact (ht1 0 (by omega) (by omega)).2.2.1 j (by omega)
            refine lv_istore_n (lv' := [(3, Value.int x_33), (0, Value.ref h0), (1, Value.int (nI a)), (2, Value.int x2), (4, Value.int (nI j))]) hx hb dX11_bestAge_83 rfl hl (by decide) rfl (fun ls hl => ?_)
            refine lv_iload hx hb dX11_bestAge_84 (lv_at hl 4 rfl) ?_
            refine lv_istore_n (lv' := [(2, Value.int (nI j)), (3, Value.int x_33), (0, Value.ref h0), (1, Value.int (nI a)), (4, Value.int (nI j))]) hx hb dX11_bestAge_86 rfl hl (by decide) rfl (fun ls hl => ?_)
            have hbs := bsf_y hv1 hb3 c_28
            have hc2 : nI j = nI (bsf (bV n K F W0 S5 a) (j + 1)).1 := by rw [hbs]
            have hc3 : x_33 = (bsf (bV n K F W0 S5 a) (j + 1)).2 := by rw [hbs]; exact hv2
            obtain ⟨x_34, e_34⟩ : ∃ y : Int32, y = (nI j) + 1 := ⟨_, rfl⟩
            refine lv_iinc (v := x_34) (lv' := [(4, Value.int x_34), (2, Value.int (nI j)), (3, Value.int x_33), (0, Value.ref h0), (1, Value.int (nI a))]) hx hb dX11_bestAge_87 hl (k := 4) rfl (by rw [e_34]; rfl) (by decide) rfl (fun ls hl => ?_)
            have h9 : x_34 = nI (j + 1) := by rw [e_34, nI_1]
            subst h9
            refine lv_goto (tgt := 24) hx hb dX11_bestAge_90 (by decide) ?_
            exact ih_24 (j + 1) (nI j) x_33 (nI n) (nI sn) dn u_14 u_15 u_7 u_8 u_9 u_10 u_11 u_16 u_17 u_18 u_19 u_20 u_21 u_22 u_5 u_23 (ms_lt hlt hfu) (by omega) (hof2) (hc2) (hc3) _ _ _ (plP hP [1, 3, 4, 5, 6, 7, 11, 12, 13, 14, 8, 15, 10, 16, 17, 18, 19, 20, 21, 22, 23, 24, 25, 26, 27, 28, 29, 30, 31, 32, 33, 9, 0, 2] rfl) (plD hD [1, 3, 4, 5, 6, 7, 11, 12, 13, 14, 8, 15, 10, 16, 17, 18, 19, 20, 21, 22, 23, 24, 25, 26, 27, 28, 29, 30, 31, 32, 33, 9, 0, 2] (by decide) rfl) hS (lv_sub hl [3, 4, 1, 2, 0] rfl)
    exact lp_24 ((n - 0) + 1) 0 0 (-1) tsz tsy tdn tun tfw tkf tff twf tpf tsf tuf tvf tqf ttf tbf tyf teg0 orf g (Nat.lt_succ_self _) (by omega) (fun a _ => rfl) (rfl) (rfl) _ _ _ (plP hP [0, 1, 2, 3, 4, 5, 6, 7, 8, 9, 10, 11, 12, 13, 14, 15, 16, 17, 18, 19, 20, 21, 22, 23, 24, 25, 26, 27, 28, 29, 30, 31, 32, 33] rfl) (plD hD [0, 1, 2, 3, 4, 5, 6, 7, 8, 9, 10, 11, 12, 13, 14, 15, 16, 17, 18, 19, 20, 21, 22, 23, 24, 25, 26, 27, 28, 29, 30, 31, 32, 33] (by decide) rfl) hS (lv_sub hl [3, 4, 2, 1, 0] rfl)
  · refine lv_aload_n hx hb dX11_bestAge_11 rfl (lv_at hl 0 rfl) ?_
    refine lv_iconst (v := -1) hx hb dX11_bestAge_12 (by decide) ?_
    have hpd9 := pdf_N (cx := [oX11 h0 xp xtp xn xt xk xl xc xo xto xr xch ts ik st, cI aC xr 7 rf]) hP hD hS hA [0, 32] (by decide) rfl
    have hPc := hpd9.1
    have hDc := hpd9.2.1
    have hFc := hpd9.2.2
    clear hpd9
    refine va_calli (va_runV (As := [Value.int (-1)]) (rest := []) ⟨hx, hb, hml, hown, hts⟩ (c_X11_refuse l dC dI aC H.size h0 xp xtp xn xt xk xl xc xo xto xr xch ts ik st (-1) 1 rf (by decide) (by decide) (by decide) (by unfold vp_in; decide)) ⟨(callB_of 1 hts (gG kw_276) rfl rfl rfl (hts _ (gw kw_1 rfl)) (hts _ (gw kw_273 rfl)) hd_X11_refuse ⟨Nat.le_of_ble_eq_true rfl, Nat.le_of_ble_eq_true rfl⟩), (hts _ (gw kw_275 rfl)), (hts _ (gw ks_0 rfl))⟩ ⟨fb_std, va_recv (q := (RX11, TX11, 14)) hK hPc (ci := 11) (q0 := 0) rfl rfl, pre_std hPc hK hDc hN⟩ rfl rfl hl.1 rfl (lv_room (Nat.le_of_ble_eq_true rfl)) dX11_bestAge_13 ⟨Nat.le_of_ble_eq_true rfl, Nat.le_of_ble_eq_true rfl⟩) hS (fun q _ h => hFc q h) hFc (fun x_35 u9 t9 H1 locs ht hvm hw_35 hB hz1 hk1 hS => ?_)
    obtain ⟨u_36, rfl⟩ : ∃ z, z = u9 := ⟨_, rfl⟩
    obtain ⟨hP1, hK1, hD1⟩ := hB
    rw [ht] at hP1
    clear hK1
    try dsimp only at hw_35
    have hpd9 : PDx (dC, dI) classes A H1 (wp [cI aC ek 8 kf, cI aC ef 8 ff, cI aC ew 8 wf, cI aC ep 8 pf, cI aC es 5 stf, oX4 xt tek tef tew tep tes tsz tsy tdn, cI aC tek 8 tkf, cI aC tef 8 tff, cI aC tew 8 twf, cI aC tep 8 tpf, cI aC tes 5 tsf, oX9 xtp tpo tpp tps tpa tpe tpb xt pk tpu tpw tpq tpt tun tfw, cA aC tpo 8 tfo, cA aC tpp 8 tfp, cA aC tps 8 tfs, cK aC pk 7 fk, cO k0 0 [], cO k1 1 [], cO k2 3 [], cO k3 5 [], cO k4 6 [], cO k5 10 [], cO k6 8 [], cI aC tpa 8 tyf, cI aC tpe 8 teg0, cI aC tpb 8 tbf, cI aC tpu 7 tuf, cI aC tpw 7 tvf, cI aC tpq 128 tqf, cI aC tpt 128 ttf, cI aC xo 8 orf, oX4 xn ek ef ew ep es (nI n) (nI sn) dn, oX11 h0 xp xtp xn xt xk xl xc xo xto xr xch ts ik st, cI aC xr 7 u_36] (va_pl L (plE aC g))) := jn_Q (wr := [cI aC ek 8 kf, cI aC ef 8 ff, cI aC ew 8 wf, cI aC ep 8 pf, cI aC es 5 stf, oX4 xt tek tef tew tep tes tsz tsy tdn, cI aC tek 8 tkf, cI aC tef 8 tff, cI aC tew 8 twf, cI aC tep 8 tpf, cI aC tes 5 tsf, oX9 xtp tpo tpp tps tpa tpe tpb xt pk tpu tpw tpq tpt tun tfw, cA aC tpo 8 tfo, cA aC tpp 8 tfp, cA aC tps 8 tfs, cK aC pk 7 fk, cO k0 0 [], cO k1 1 [], cO k2 3 [], cO k3 5 [], cO k4 6 [], cO k5 10 [], cO k6 8 [], cI aC tpa 8 tyf, cI aC tpe 8 teg0, cI aC tpb 8 tbf, cI aC tpu 7 tuf, cI aC tpw 7 tvf, cI aC tpq 128 tqf, cI aC tpt 128 ttf, cI aC xo 8 orf, oX4 xn ek ef ew ep es (nI n) (nI sn) dn]) hFc hk1 hP1 hD1 hP hD [0, 32] [1, 2, 3, 4, 5, 6, 7, 8, 9, 10, 11, 12, 13, 14, 15, 16, 17, 18, 19, 20, 21, 22, 23, 24, 25, 26, 27, 28, 29, 30, 31, 33] rfl rfl (by decide) (by decide)
    have hP := hpd9.1
    have hD := hpd9.2
    clear hpd9
    generalize H1 = H at hP hS ⊢
    clear hPc hDc hFc hz1 hk1 hP1 hD1 ht hvm
    obtain ⟨hv9, -⟩ := hw_35
    have hpd9 := pd_P (cx := [oX11 h0 xp xtp xn xt xk xl xc xo xto xr xch ts ik st, oX4 xn ek ef ew ep es (nI n) (nI sn) dn, cI aC ek 8 kf, cI aC ef 8 ff, cI aC ew 8 wf, cI aC ep 8 pf, cI aC es 5 stf, oX4 xt tek tef tew tep tes tsz tsy tdn, cI aC tek 8 tkf, cI aC tef 8 tff, cI aC tew 8 twf, cI aC tep 8 tpf, cI aC tes 5 tsf, oX9 xtp tpo tpp tps tpa tpe tpb xt pk tpu tpw tpq tpt tun tfw, cA aC tpo 8 tfo, cA aC tpp 8 tfp, cA aC tps 8 tfs, cK aC pk 7 fk, cO k0 0 [], cO k1 1 [], cO k2 3 [], cO k3 5 [], cO k4 6 [], cO k5 10 [], cO k6 8 [], cI aC tpa 8 tyf, cI aC tpe 8 teg0, cI aC tpb 8 tbf, cI aC tpu 7 tuf, cI aC tpw 7 tvf, cI aC tpq 128 tqf, cI aC tpt 128 ttf, cI aC xo 8 orf, cI aC xr 7 u_36]) hP hD [32, 31, 0, 1, 2, 3, 4, 5, 6, 7, 8, 9, 10, 11, 12, 13, 14, 15, 16, 17, 18, 19, 20, 21, 22, 23, 24, 25, 26, 27, 28, 29, 30, 33] (by decide) rfl
    have hP9 := hpd9.1
    have hD9 := hpd9.2
    refine W.widen (k := 0) (n := 0) (by omega) (by omega) ?_
    exact W.iret (v := x_35) hx hb hr (fun t ht hW => ⟨⟨x_35, (tsz, tsy, tdn, tkf, tff, twf, tpf, tsf, tun, tfw, tuf, tvf, tqf, ttf, tbf, tyf, teg0, g, orf, u_36), rfl, ⟨fun a _ => rfl, by rw [hv9]; unfold rBst; rw [if_neg (has_n hz_5 c_2)]⟩, by rw [ht]; exact hP9, va_K.moved hW.alike hK, hD9⟩, hS.F ht⟩) hS.2.2 dX11_bestAge_16

set_option maxHeartbeats 1000000 in
set_option maxRecDepth 100000 in
/-- X11_seeds -/
theorem c_X11_seeds (l : Launch) (dC : Nat → ClassId) (dI : Nat → Nat → Nat) (aC : Nat → ClassId) (sz : Nat) (h0 : Nat) (xp : Nat) (xtp : Nat) (xn : Nat) (xt : Nat) (xk : Nat) (xl : Nat) (xc : Nat) (xo : Nat) (xto : Nat) (xr : Nat) (xch : Nat) (ts : Int32) (ik : Int32) (st : Int32) (ek : Nat) (ef : Nat) (ew : Nat) (ep : Nat) (es : Nat) (n : Nat) (sn : Nat) (dn : Int32) (kf : Nat → Int32) (ff : Nat → Int32) (wf : Nat → Int32) (pf : Nat → Int32) (stf : Nat → Int32) (tek : Nat) (tef : Nat) (tew : Nat) (tep : Nat) (tes : Nat) (tsz : Int32) (tsy : Int32) (tdn : Int32) (tkf : Nat → Int32) (tff : Nat → Int32) (twf : Nat → Int32) (tpf : Nat → Int32) (tsf : Nat → Int32) (K : Nat → Nat) (F : Nat → Nat) (W0 : Nat → Nat) (S5 : Nat → Nat) (pk : Nat) (fk : Nat → Option Nat) (k0 : Nat) (k1 : Nat) (k2 : Nat) (k3 : Nat) (k4 : Nat) (k5 : Nat) (k6 : Nat) (tpo : Nat) (tpp : Nat) (tps : Nat) (tpa : Nat) (tpe : Nat) (tpb : Nat) (tpu : Nat) (tpw : Nat) (tpq : Nat) (tpt : Nat) (tun : Int32) (tfw : Int32) (tfo : Nat → Option Nat) (tfp : Nat → Option Nat) (tfs : Nat → Option Nat) (tro : Nat → Nat) (trp : Nat → Nat) (trs : Nat → Nat) (tuf : Nat → Int32) (tvf : Nat → Int32) (tqf : Nat → Int32) (ttf : Nat → Int32) (tbf : Nat → Int32) (tyf : Nat → Int32) (teg0 : Nat → Int32) (L : List Nat) (g : Nat → Nat → Int32) (orf : Nat → Int32) (rf : Nat → Int32) (i : Int32) (a2 : Int32) (a3 : Int32) (tG : Nat) (hev : EVS n sn dn K F W0 S5 kf ff wf stf) (hkd : KDS fk k0 k1 k2 k3 k4 k5 k6) (htg : GRD L tfo tfp tfs tro trp trs) : Met l yX11_seeds (wW yX11_seeds cX11_seeds 7 (some .int)) ({ frames := 6, cells := 0, slots := 0, locals := 131 } : Room) (va_Pc [Value.ref h0, Value.int i, Value.int a2, Value.int a3] (fun U => U.heap.size = sz ∧ va_P (dC, dI) classes (wp [oX11 h0 xp xtp xn xt xk xl xc xo xto xr xch ts ik st, oX4 xn ek ef ew ep es (nI n) (nI sn) dn, cI aC ek 8 kf, cI aC ef 8 ff, cI aC ew 8 wf, cI aC ep 8 pf, cI aC es 5 stf, oX4 xt tek tef tew tep tes tsz tsy tdn, cI aC tek 8 tkf, cI aC tef 8 tff, cI aC tew 8 twf, cI aC tep 8 tpf, cI aC tes 5 tsf, oX9 xtp tpo tpp tps tpa tpe tpb xt pk tpu tpw tpq tpt tun tfw, cA aC tpo 8 tfo, cA aC tpp 8 tfp, cA aC tps 8 tfs, cK aC pk 7 fk, cO k0 0 [], cO k1 1 [], cO k2 3 [], cO k3 5 [], cO k4 6 [], cO k5 10 [], cO k6 8 [], cI aC tpa 8 tyf, cI aC tpe 8 teg0, cI aC tpb 8 tbf, cI aC tpu 7 tuf, cI aC tpw 7 tvf, cI aC tpq 128 tqf, cI aC tpt 128 ttf, cI aC xo 8 orf, cI aC xr 7 rf] (va_pl L (plE aC g))) U.heap ∧ va_K (dC, dI) classes (TY aC) U ∧ va_D (fun _ => True) (wp [oX11 h0 xp xtp xn xt xk xl xc xo xto xr xch ts ik st, oX4 xn ek ef ew ep es (nI n) (nI sn) dn, cI aC ek 8 kf, cI aC ef 8 ff, cI aC ew 8 wf, cI aC ep 8 pf, cI aC es 5 stf, oX4 xt tek tef tew tep tes tsz tsy tdn, cI aC tek 8 tkf, cI aC tef 8 tff, cI aC tew 8 twf, cI aC tep 8 tpf, cI aC tes 5 tsf, oX9 xtp tpo tpp tps tpa tpe tpb xt pk tpu tpw tpq tpt tun tfw, cA aC tpo 8 tfo, cA aC tpp 8 tfp, cA aC tps 8 tfs, cK aC pk 7 fk, cO k0 0 [], cO k1 1 [], cO k2 3 [], cO k3 5 [], cO k4 6 [], cO k5 10 [], cO k6 8 [], cI aC tpa 8 tyf, cI aC tpe 8 teg0, cI aC tpb 8 tbf, cI aC tpu 7 tuf, cI aC tpw 7 tvf, cI aC tpq 128 tqf, cI aC tpt 128 ttf, cI aC xo 8 orf, cI aC xr 7 rf] (va_pl L (plE aC g))) ∧ NX U ∧ va_Z "EldestSays" "GREATEST" "[I" (.ref tG) (va_A (wp [oX11 h0 xp xtp xn xt xk xl xc xo xto xr xch ts ik st, oX4 xn ek ef ew ep es (nI n) (nI sn) dn, cI aC ek 8 kf, cI aC ef 8 ff, cI aC ew 8 wf, cI aC ep 8 pf, cI aC es 5 stf, oX4 xt tek tef tew tep tes tsz tsy tdn, cI aC tek 8 tkf, cI aC tef 8 tff, cI aC tew 8 twf, cI aC tep 8 tpf, cI aC tes 5 tsf, oX9 xtp tpo tpp tps tpa tpe tpb xt pk tpu tpw tpq tpt tun tfw, cA aC tpo 8 tfo, cA aC tpp 8 tfp, cA aC tps 8 tfs, cK aC pk 7 fk, cO k0 0 [], cO k1 1 [], cO k2 3 [], cO k3 5 [], cO k4 6 [], cO k5 10 [], cO k6 8 [], cI aC tpa 8 tyf, cI aC tpe 8 teg0, cI aC tpb 8 tbf, cI aC tpu 7 tuf, cI aC tpw 7 tvf, cI aC tpq 128 tqf, cI aC tpt 128 ttf, cI aC xo 8 orf, cI aC xr 7 rf] (va_pl L (plE aC g))) sz) U U.heap ∧ va_T .int tG 5 (fun j => .int (GV j)) (va_A (wp [oX11 h0 xp xtp xn xt xk xl xc xo xto xr xch ts ik st, oX4 xn ek ef ew ep es (nI n) (nI sn) dn, cI aC ek 8 kf, cI aC ef 8 ff, cI aC ew 8 wf, cI aC ep 8 pf, cI aC es 5 stf, oX4 xt tek tef tew tep tes tsz tsy tdn, cI aC tek 8 tkf, cI aC tef 8 tff, cI aC tew 8 twf, cI aC tep 8 tpf, cI aC tes 5 tsf, oX9 xtp tpo tpp tps tpa tpe tpb xt pk tpu tpw tpq tpt tun tfw, cA aC tpo 8 tfo, cA aC tpp 8 tfp, cA aC tps 8 tfs, cK aC pk 7 fk, cO k0 0 [], cO k1 1 [], cO k2 3 [], cO k3 5 [], cO k4 6 [], cO k5 10 [], cO k6 8 [], cI aC tpa 8 tyf, cI aC tpe 8 teg0, cI aC tpb 8 tbf, cI aC tpu 7 tuf, cI aC tpw 7 tvf, cI aC tpq 128 tqf, cI aC tpt 128 ttf, cI aC xo 8 orf, cI aC xr 7 rf] (va_pl L (plE aC g))) sz) U U.heap)) (va_Qi (fun (r : Int32) (u : Int32 × Int32 × Int32 × (Nat → Int32) × (Nat → Int32) × (Nat → Int32) × (Nat → Int32) × (Nat → Int32) × Int32 × Int32 × (Nat → Int32) × (Nat → Int32) × (Nat → Int32) × (Nat → Int32) × (Nat → Int32) × (Nat → Int32) × (Nat → Int32) × (Nat → Nat → Int32) × (Nat → Int32) × (Nat → Int32)) => match u with | (tsz2, tsy2, tdn2, tkf2, tff2, twf2, tpf2, tsf2, tun2, tfw2, tuf2, tvf2, tqf2, ttf2, tbf2, tyf2, teg02, g2, org, rf2) => (∀ a, OFF tro trp trs a → g2 a = g a) ∧ r = rSds n K F W0 S5 i a2 a3) (fun (u : Int32 × Int32 × Int32 × (Nat → Int32) × (Nat → Int32) × (Nat → Int32) × (Nat → Int32) × (Nat → Int32) × Int32 × Int32 × (Nat → Int32) × (Nat → Int32) × (Nat → Int32) × (Nat → Int32) × (Nat → Int32) × (Nat → Int32) × (Nat → Int32) × (Nat → Nat → Int32) × (Nat → Int32) × (Nat → Int32)) (t : State) => match u with | (tsz2, tsy2, tdn2, tkf2, tff2, twf2, tpf2, tsf2, tun2, tfw2, tuf2, tvf2, tqf2, ttf2, tbf2, tyf2, teg02, g2, org, rf2) => va_P (dC, dI) classes (wp [oX11 h0 xp xtp xn xt xk xl xc xo xto xr xch ts ik st, oX4 xn ek ef ew ep es (nI n) (nI sn) dn, cI aC ek 8 kf, cI aC ef 8 ff, cI aC ew 8 wf, cI aC ep 8 pf, cI aC es 5 stf, oX4 xt tek tef tew tep tes tsz2 tsy2 tdn2, cI aC tek 8 tkf2, cI aC tef 8 tff2, cI aC tew 8 twf2, cI aC tep 8 tpf2, cI aC tes 5 tsf2, oX9 xtp tpo tpp tps tpa tpe tpb xt pk tpu tpw tpq tpt tun2 tfw2, cA aC tpo 8 tfo, cA aC tpp 8 tfp, cA aC tps 8 tfs, cK aC pk 7 fk, cO k0 0 [], cO k1 1 [], cO k2 3 [], cO k3 5 [], cO k4 6 [], cO k5 10 [], cO k6 8 [], cI aC tpa 8 tyf2, cI aC tpe 8 teg02, cI aC tpb 8 tbf2, cI aC tpu 7 tuf2, cI aC tpw 7 tvf2, cI aC tpq 128 tqf2, cI aC tpt 128 ttf2, cI aC xo 8 org, cI aC xr 7 rf2] (va_pl L (plE aC g2))) t.heap ∧ va_K (dC, dI) classes (TY aC) t ∧ va_D (va_A (wp [oX11 h0 xp xtp xn xt xk xl xc xo xto xr xch ts ik st, oX4 xn ek ef ew ep es (nI n) (nI sn) dn, cI aC ek 8 kf, cI aC ef 8 ff, cI aC ew 8 wf, cI aC ep 8 pf, cI aC es 5 stf, oX4 xt tek tef tew tep tes tsz tsy tdn, cI aC tek 8 tkf, cI aC tef 8 tff, cI aC tew 8 twf, cI aC tep 8 tpf, cI aC tes 5 tsf, oX9 xtp tpo tpp tps tpa tpe tpb xt pk tpu tpw tpq tpt tun tfw, cA aC tpo 8 tfo, cA aC tpp 8 tfp, cA aC tps 8 tfs, cK aC pk 7 fk, cO k0 0 [], cO k1 1 [], cO k2 3 [], cO k3 5 [], cO k4 6 [], cO k5 10 [], cO k6 8 [], cI aC tpa 8 tyf, cI aC tpe 8 teg0, cI aC tpb 8 tbf, cI aC tpu 7 tuf, cI aC tpw 7 tvf, cI aC tpq 128 tqf, cI aC tpt 128 ttf, cI aC xo 8 orf, cI aC xr 7 rf] (va_pl L (plE aC g))) sz) (wp [oX11 h0 xp xtp xn xt xk xl xc xo xto xr xch ts ik st, oX4 xn ek ef ew ep es (nI n) (nI sn) dn, cI aC ek 8 kf, cI aC ef 8 ff, cI aC ew 8 wf, cI aC ep 8 pf, cI aC es 5 stf, oX4 xt tek tef tew tep tes tsz2 tsy2 tdn2, cI aC tek 8 tkf2, cI aC tef 8 tff2, cI aC tew 8 twf2, cI aC tep 8 tpf2, cI aC tes 5 tsf2, oX9 xtp tpo tpp tps tpa tpe tpb xt pk tpu tpw tpq tpt tun2 tfw2, cA aC tpo 8 tfo, cA aC tpp 8 tfp, cA aC tps 8 tfs, cK aC pk 7 fk, cO k0 0 [], cO k1 1 [], cO k2 3 [], cO k3 5 [], cO k4 6 [], cO k5 10 [], cO k6 8 [], cI aC tpa 8 tyf2, cI aC tpe 8 teg02, cI aC tpb 8 tbf2, cI aC tpu 7 tuf2, cI aC tpw 7 tvf2, cI aC tpq 128 tqf2, cI aC tpt 128 ttf2, cI aC xo 8 org, cI aC xr 7 rf2] (va_pl L (plE aC g2)))) (va_A (wp [oX11 h0 xp xtp xn xt xk xl xc xo xto xr xch ts ik st, oX4 xn ek ef ew ep es (nI n) (nI sn) dn, cI aC ek 8 kf, cI aC ef 8 ff, cI aC ew 8 wf, cI aC ep 8 pf, cI aC es 5 stf, oX4 xt tek tef tew tep tes tsz tsy tdn, cI aC tek 8 tkf, cI aC tef 8 tff, cI aC tew 8 twf, cI aC tep 8 tpf, cI aC tes 5 tsf, oX9 xtp tpo tpp tps tpa tpe tpb xt pk tpu tpw tpq tpt tun tfw, cA aC tpo 8 tfo, cA aC tpp 8 tfp, cA aC tps 8 tfs, cK aC pk 7 fk, cO k0 0 [], cO k1 1 [], cO k2 3 [], cO k3 5 [], cO k4 6 [], cO k5 10 [], cO k6 8 [], cI aC tpa 8 tyf, cI aC tpe 8 teg0, cI aC tpb 8 tbf, cI aC tpu 7 tuf, cI aC tpw 7 tvf, cI aC tpq 128 tqf, cI aC tpt 128 ttf, cI aC xo 8 orf, cI aC xr 7 rf] (va_pl L (plE aC g))) sz)) 0 0 (va_A (wp [oX11 h0 xp xtp xn xt xk xl xc xo xto xr xch ts ik st, oX4 xn ek ef ew ep es (nI n) (nI sn) dn, cI aC ek 8 kf, cI aC ef 8 ff, cI aC ew 8 wf, cI aC ep 8 pf, cI aC es 5 stf, oX4 xt tek tef tew tep tes tsz tsy tdn, cI aC tek 8 tkf, cI aC tef 8 tff, cI aC tew 8 twf, cI aC tep 8 tpf, cI aC tes 5 tsf, oX9 xtp tpo tpp tps tpa tpe tpb xt pk tpu tpw tpq tpt tun tfw, cA aC tpo 8 tfo, cA aC tpp 8 tfp, cA aC tps 8 tfs, cK aC pk 7 fk, cO k0 0 [], cO k1 1 [], cO k2 3 [], cO k3 5 [], cO k4 6 [], cO k5 10 [], cO k6 8 [], cI aC tpa 8 tyf, cI aC tpe 8 teg0, cI aC tpb 8 tbf, cI aC tpu 7 tuf, cI aC tpw 7 tvf, cI aC tpq 128 tqf, cI aC tpt 128 ttf, cI aC xo 8 orf, cI aC xr 7 rf] (va_pl L (plE aC g))) sz) := by
  refine Met.ofW (cc := cX11_seeds) (maxL := 7) (ret := (some .int)) (by decide) rfl ?_
  intro p e s m args below meth c s₁ B hml hv
  obtain ⟨rfl, hsz, hP, hK, hD0, hN, hZG, hTG⟩ := hv
  have hx := B.exec
  have hb := B.bytes
  have hr := B.returns
  have hts0 := atoms_spec (ws := (wW yX11_seeds cX11_seeds 7 (some .int))) B.pre
  have hts : ∀ w9 ∈ lw_G, w9.before ([Value.ref h0, Value.int i, Value.int a2, Value.int a3] : List Value).toArray s = true := fun w9 h9 => hts0 w9 (List.mem_cons_of_mem _ h9)
  have hown : s.vm.findClass RX11 = some m.cls := findClass_of_methodNamed (x := yX11_seeds) B.named
  have hlocks := B.notSynchronized
  subst hsz
  have hD := hD0.self (sz := s.heap.size)
  generalize hAe : va_A (wp [oX11 h0 xp xtp xn xt xk xl xc xo xto xr xch ts ik st, oX4 xn ek ef ew ep es (nI n) (nI sn) dn, cI aC ek 8 kf, cI aC ef 8 ff, cI aC ew 8 wf, cI aC ep 8 pf, cI aC es 5 stf, oX4 xt tek tef tew tep tes tsz tsy tdn, cI aC tek 8 tkf, cI aC tef 8 tff, cI aC tew 8 twf, cI aC tep 8 tpf, cI aC tes 5 tsf, oX9 xtp tpo tpp tps tpa tpe tpb xt pk tpu tpw tpq tpt tun tfw, cA aC tpo 8 tfo, cA aC tpp 8 tfp, cA aC tps 8 tfs, cK aC pk 7 fk, cO k0 0 [], cO k1 1 [], cO k2 3 [], cO k3 5 [], cO k4 6 [], cO k5 10 [], cO k6 8 [], cI aC tpa 8 tyf, cI aC tpe 8 teg0, cI aC tpb 8 tbf, cI aC tpu 7 tuf, cI aC tpw 7 tvf, cI aC tpq 128 tqf, cI aC tpt 128 ttf, cI aC xo 8 orf, cI aC xr 7 rf] (va_pl L (plE aC g))) s.heap.size = A at hZG hTG hD ⊢
  have hA : ∀ q : Nat, s.heap.size ≤ q → A q := fun q h => by rw [← hAe]; exact Or.inr h
  obtain ⟨H, hHe⟩ : ∃ H : Heap, H = s.heap := ⟨_, rfl⟩
  have hS : va_S A s.heap H [] := by rw [hHe]; exact va_S.rf
  have hP : va_P (dC, dI) classes (wp [oX11 h0 xp xtp xn xt xk xl xc xo xto xr xch ts ik st, oX4 xn ek ef ew ep es (nI n) (nI sn) dn, cI aC ek 8 kf, cI aC ef 8 ff, cI aC ew 8 wf, cI aC ep 8 pf, cI aC es 5 stf, oX4 xt tek tef tew tep tes tsz tsy tdn, cI aC tek 8 tkf, cI aC tef 8 tff, cI aC tew 8 twf, cI aC tep 8 tpf, cI aC tes 5 tsf, oX9 xtp tpo tpp tps tpa tpe tpb xt pk tpu tpw tpq tpt tun tfw, cA aC tpo 8 tfo, cA aC tpp 8 tfp, cA aC tps 8 tfs, cK aC pk 7 fk, cO k0 0 [], cO k1 1 [], cO k2 3 [], cO k3 5 [], cO k4 6 [], cO k5 10 [], cO k6 8 [], cI aC tpa 8 tyf, cI aC tpe 8 teg0, cI aC tpb 8 tbf, cI aC tpu 7 tuf, cI aC tpw 7 tvf, cI aC tpq 128 tqf, cI aC tpt 128 ttf, cI aC xo 8 orf, cI aC xr 7 rf] (va_pl L (plE aC g))) H := by rw [hHe]; exact hP
  have hl := lv_entry ([Value.ref h0, Value.int i, Value.int a2, Value.int a3]) (n := 7) (Nat.le_of_ble_eq_true rfl)
  rw [lg_entry_eq]
  generalize (lg_sl ([Value.ref h0, Value.int i, Value.int a2, Value.int a3]) ++ List.replicate (7 - (lg_sl ([Value.ref h0, Value.int i, Value.int a2, Value.int a3])).length) Slot.unset).toArray = ls at hl ⊢
  have hl : lv_has ls 7 [(0, Value.ref h0), (1, Value.int i), (2, Value.int a2), (3, Value.int a3)] := hl
  rw [← hHe]
  have hn8 := EVS_n hev
  refine lv_aload_n hx hb dX11_seeds_0 rfl (lv_at hl 0 rfl) ?_
  refine va_get (D := (dC, dI)) (ci := 11) (v := Value.ref xn) (C := RX11) (T := TX11) (N := 14) hx hb hts inX11 hown hK hP 0 rfl rfl 2 (by decide) (hts _ (gw kw_228 rfl)) (fun _ h9 => h9) rfl dX11_seeds_1 ?_
  refine lv_iload_n hx hb dX11_seeds_4 rfl (lv_at hl 1 rfl) ?_
  have hpd9 := pdf_N (cx := [oX4 xn ek ef ew ep es (nI n) (nI sn) dn]) hP hD hS hA [1] (by decide) rfl
  have hPc := hpd9.1
  have hDc := hpd9.2.1
  have hFc := hpd9.2.2
  clear hpd9
  refine va_calli (va_runV (As := [Value.int i]) (rest := []) ⟨hx, hb, hml, hown, hts⟩ (c_X4_has l dC dI aC H.size xn ek ef ew ep es (nI n) (nI sn) dn i ) ⟨(callB_of 1 hts (gG kw_340) rfl rfl rfl (hts _ (gw kw_2 rfl)) (hts _ (gw kw_337 rfl)) hd_X4_has ⟨Nat.le_of_ble_eq_true rfl, Nat.le_of_ble_eq_true rfl⟩), (hts _ (gw kw_338 rfl)), (hts _ (gw kw_339 rfl))⟩ ⟨fb_std, va_recv (q := (RX4, TX4, 8)) hK hPc (ci := 4) (q0 := 0) rfl rfl, pre_std hPc hK hDc hN⟩ rfl rfl hl.1 rfl (lv_room (Nat.le_of_ble_eq_true rfl)) dX11_seeds_5 ⟨Nat.le_of_ble_eq_true rfl, Nat.le_of_ble_eq_true rfl⟩) hS (fun q _ h => hFc q h) hFc (fun x_1 u9 t9 H1 locs ht hvm hw_1 hB hz1 hk1 hS => ?_)
  obtain ⟨hP1, hK1, hD1⟩ := hB
  rw [ht] at hP1
  clear hK1
  try dsimp only at hw_1
  have hpd9 : PDx (dC, dI) classes A H1 (wp [oX11 h0 xp xtp xn xt xk xl xc xo xto xr xch ts ik st, cI aC ek 8 kf, cI aC ef 8 ff, cI aC ew 8 wf, cI aC ep 8 pf, cI aC es 5 stf, oX4 xt tek tef tew tep tes tsz tsy tdn, cI aC tek 8 tkf, cI aC tef 8 tff, cI aC tew 8 twf, cI aC tep 8 tpf, cI aC tes 5 tsf, oX9 xtp tpo tpp tps tpa tpe tpb xt pk tpu tpw tpq tpt tun tfw, cA aC tpo 8 tfo, cA aC tpp 8 tfp, cA aC tps 8 tfs, cK aC pk 7 fk, cO k0 0 [], cO k1 1 [], cO k2 3 [], cO k3 5 [], cO k4 6 [], cO k5 10 [], cO k6 8 [], cI aC tpa 8 tyf, cI aC tpe 8 teg0, cI aC tpb 8 tbf, cI aC tpu 7 tuf, cI aC tpw 7 tvf, cI aC tpq 128 tqf, cI aC tpt 128 ttf, cI aC xo 8 orf, cI aC xr 7 rf, oX4 xn ek ef ew ep es (nI n) (nI sn) dn] (va_pl L (plE aC g))) := jn_Q (wr := [oX11 h0 xp xtp xn xt xk xl xc xo xto xr xch ts ik st, cI aC ek 8 kf, cI aC ef 8 ff, cI aC ew 8 wf, cI aC ep 8 pf, cI aC es 5 stf, oX4 xt tek tef tew tep tes tsz tsy tdn, cI aC tek 8 tkf, cI aC tef 8 tff, cI aC tew 8 twf, cI aC tep 8 tpf, cI aC tes 5 tsf, oX9 xtp tpo tpp tps tpa tpe tpb xt pk tpu tpw tpq tpt tun tfw, cA aC tpo 8 tfo, cA aC tpp 8 tfp, cA aC tps 8 tfs, cK aC pk 7 fk, cO k0 0 [], cO k1 1 [], cO k2 3 [], cO k3 5 [], cO k4 6 [], cO k5 10 [], cO k6 8 [], cI aC tpa 8 tyf, cI aC tpe 8 teg0, cI aC tpb 8 tbf, cI aC tpu 7 tuf, cI aC tpw 7 tvf, cI aC tpq 128 tqf, cI aC tpt 128 ttf, cI aC xo 8 orf, cI aC xr 7 rf]) hFc hk1 hP1 hD1 hP hD [1] [0, 2, 3, 4, 5, 6, 7, 8, 9, 10, 11, 12, 13, 14, 15, 16, 17, 18, 19, 20, 21, 22, 23, 24, 25, 26, 27, 28, 29, 30, 31, 32, 33] rfl rfl (by decide) (by decide)
  have hP := hpd9.1
  have hD := hpd9.2
  clear hpd9
  generalize H1 = H at hP hS ⊢
  clear hPc hDc hFc hz1 hk1 hP1 hD1 ht hvm
  have hz_5 := hw_1
  refine lv_if_ne (tgt := 17) hx hb dX11_seeds_8 (by decide) (fun c_2 => ?_) (fun c_2 => ?_)
  · obtain ⟨a, ha8, ha9⟩ := OKI_ix hn8 (has_y hz_5 c_2)
    have hl : lv_has ls 7 [(0, Value.ref h0), (1, Value.int (nI a)), (2, Value.int a2), (3, Value.int a3)] := by rw [← ha9]; exact hl
    refine lv_iload_n hx hb dX11_seeds_17 rfl (lv_at hl 2 rfl) ?_
    refine lv_iconst (v := 1) hx hb dX11_seeds_18 (by decide) ?_
    refine lv_icmp_ge (tgt := 29) hx hb dX11_seeds_19 (by decide) (fun c_3 => ?_) (fun c_3 => ?_)
    · refine lv_iload_n hx hb dX11_seeds_29 rfl (lv_at hl 2 rfl) ?_
      refine lv_bipush (v := 30) hx hb dX11_seeds_30 (by decide) ?_
      refine lv_icmp_le (tgt := 42) hx hb dX11_seeds_32 (by decide) (fun c_4 => ?_) (fun c_4 => ?_)
      · obtain ⟨nn, hnn, hne⟩ : ∃ nn, nn ≤ 30 ∧ a2 = nI nn := by
          obtain ⟨q, q1, q2⟩ := ix_of (n := 31) (by omega) (x := a2) (fun z => absurd (Int32.lt_trans z (show (0 : Int32) < 1 by decide)) (Int32.not_lt.mpr c_3)) (fun z => absurd (Int32.lt_of_lt_of_le (show (30 : Int32) < nI 31 by decide) z) (Int32.not_lt.mpr c_4))
          exact ⟨q, by omega, q2⟩
        have hl : lv_has ls 7 [(0, Value.ref h0), (1, Value.int (nI a)), (2, Value.int (nI nn)), (3, Value.int a3)] := by rw [← hne]; exact hl
        refine lv_iload_n hx hb dX11_seeds_42 rfl (lv_at hl 3 rfl) ?_
        refine lv_istore (lv' := [(4, Value.int a3), (0, Value.ref h0), (1, Value.int (nI a)), (2, Value.int (nI nn)), (3, Value.int a3)]) hx hb dX11_seeds_43 hl (by decide) rfl (fun ls hl => ?_)
        refine lv_iconst (v := 0) hx hb dX11_seeds_45 (by decide) ?_
        refine lv_istore (lv' := [(5, Value.int 0), (4, Value.int a3), (0, Value.ref h0), (1, Value.int (nI a)), (2, Value.int (nI nn)), (3, Value.int a3)]) hx hb dX11_seeds_46 hl (by decide) rfl (fun ls hl => ?_)
        refine lv_iconst (v := 0) hx hb dX11_seeds_48 (by decide) ?_
        refine lv_istore (lv' := [(6, Value.int 0), (5, Value.int 0), (4, Value.int a3), (0, Value.ref h0), (1, Value.int (nI a)), (2, Value.int (nI nn)), (3, Value.int a3)]) hx hb dX11_seeds_49 hl (by decide) rfl (fun ls hl => ?_)
        have lp_51 : ∀ (fu : Nat) (k : Nat) (x4 : Int32) (x5 : Int32) (tszc : Int32) (tsyc : Int32) (tdnc : Int32) (tunc : Int32) (tfwc : Int32) (tkfc : Nat → Int32) (tffc : Nat → Int32) (twfc : Nat → Int32) (tpfc : Nat → Int32) (tsfc : Nat → Int32) (tufc : Nat → Int32) (tvfc : Nat → Int32) (tqfc : Nat → Int32) (ttfc : Nat → Int32) (tbfc : Nat → Int32) (tyfc : Nat → Int32) (teg0c : Nat → Int32) (orc : Nat → Int32) (gc : Nat → Nat → Int32) (hfu : nn - k < fu) (hk : k ≤ nn) (hof : ∀ a, OFF tro trp trs a → gc a = g a) (hse : x4 = (sev n K F W0 S5 a a3 k).1 ∧ x5 = (sev n K F W0 S5 a a3 k).2) (H : Heap) (locs : List Loc) (ls : Array Slot), va_P (dC, dI) classes (wp [oX11 h0 xp xtp xn xt xk xl xc xo xto xr xch ts ik st, cI aC ek 8 kf, cI aC ef 8 ff, cI aC ew 8 wf, cI aC ep 8 pf, cI aC es 5 stf, oX4 xt tek tef tew tep tes tszc tsyc tdnc, cI aC tek 8 tkfc, cI aC tef 8 tffc, cI aC tew 8 twfc, cI aC tep 8 tpfc, cI aC tes 5 tsfc, oX9 xtp tpo tpp tps tpa tpe tpb xt pk tpu tpw tpq tpt tunc tfwc, cA aC tpo 8 tfo, cA aC tpp 8 tfp, cA aC tps 8 tfs, cK aC pk 7 fk, cO k0 0 [], cO k1 1 [], cO k2 3 [], cO k3 5 [], cO k4 6 [], cO k5 10 [], cO k6 8 [], cI aC tpa 8 tyfc, cI aC tpe 8 teg0c, cI aC tpb 8 tbfc, cI aC tpu 7 tufc, cI aC tpw 7 tvfc, cI aC tpq 128 tqfc, cI aC tpt 128 ttfc, cI aC xo 8 orc, cI aC xr 7 rf, oX4 xn ek ef ew ep es (nI n) (nI sn) dn] (va_pl L (plE aC gc))) H → va_D A (wp [oX11 h0 xp xtp xn xt xk xl xc xo xto xr xch ts ik st, cI aC ek 8 kf, cI aC ef 8 ff, cI aC ew 8 wf, cI aC ep 8 pf, cI aC es 5 stf, oX4 xt tek tef tew tep tes tszc tsyc tdnc, cI aC tek 8 tkfc, cI aC tef 8 tffc, cI aC tew 8 twfc, cI aC tep 8 tpfc, cI aC tes 5 tsfc, oX9 xtp tpo tpp tps tpa tpe tpb xt pk tpu tpw tpq tpt tunc tfwc, cA aC tpo 8 tfo, cA aC tpp 8 tfp, cA aC tps 8 tfs, cK aC pk 7 fk, cO k0 0 [], cO k1 1 [], cO k2 3 [], cO k3 5 [], cO k4 6 [], cO k5 10 [], cO k6 8 [], cI aC tpa 8 tyfc, cI aC tpe 8 teg0c, cI aC tpb 8 tbfc, cI aC tpu 7 tufc, cI aC tpw 7 tvfc, cI aC tpq 128 tqfc, cI aC tpt 128 ttfc, cI aC xo 8 orc, cI aC xr 7 rf, oX4 xn ek ef ew ep es (nI n) (nI sn) dn] (va_pl L (plE aC gc))) → va_S A s.heap H locs → lv_has ls 7 [(0, Value.ref h0), (1, Value.int (nI a)), (2, Value.int (nI nn)), (3, Value.int a3), (4, Value.int x4), (5, Value.int x5), (6, Value.int (nI k))] → W p l e (headSpec (wW yX11_seeds cX11_seeds 7 (some .int)) ({ frames := 6, cells := 0, slots := 0, locals := 131 } : Room)).room s m ([Value.ref h0, Value.int i, Value.int a2, Value.int a3] : List Value).toArray below meth c H locs 0 0 (MQ below (va_Qi (fun (r : Int32) (u : Int32 × Int32 × Int32 × (Nat → Int32) × (Nat → Int32) × (Nat → Int32) × (Nat → Int32) × (Nat → Int32) × Int32 × Int32 × (Nat → Int32) × (Nat → Int32) × (Nat → Int32) × (Nat → Int32) × (Nat → Int32) × (Nat → Int32) × (Nat → Int32) × (Nat → Nat → Int32) × (Nat → Int32) × (Nat → Int32)) => match u with | (tsz2, tsy2, tdn2, tkf2, tff2, twf2, tpf2, tsf2, tun2, tfw2, tuf2, tvf2, tqf2, ttf2, tbf2, tyf2, teg02, g2, org, rf2) => (∀ a, OFF tro trp trs a → g2 a = g a) ∧ r = rSds n K F W0 S5 i a2 a3) (fun (u : Int32 × Int32 × Int32 × (Nat → Int32) × (Nat → Int32) × (Nat → Int32) × (Nat → Int32) × (Nat → Int32) × Int32 × Int32 × (Nat → Int32) × (Nat → Int32) × (Nat → Int32) × (Nat → Int32) × (Nat → Int32) × (Nat → Int32) × (Nat → Int32) × (Nat → Nat → Int32) × (Nat → Int32) × (Nat → Int32)) (t : State) => match u with | (tsz2, tsy2, tdn2, tkf2, tff2, twf2, tpf2, tsf2, tun2, tfw2, tuf2, tvf2, tqf2, ttf2, tbf2, tyf2, teg02, g2, org, rf2) => va_P (dC, dI) classes (wp [oX11 h0 xp xtp xn xt xk xl xc xo xto xr xch ts ik st, oX4 xn ek ef ew ep es (nI n) (nI sn) dn, cI aC ek 8 kf, cI aC ef 8 ff, cI aC ew 8 wf, cI aC ep 8 pf, cI aC es 5 stf, oX4 xt tek tef tew tep tes tsz2 tsy2 tdn2, cI aC tek 8 tkf2, cI aC tef 8 tff2, cI aC tew 8 twf2, cI aC tep 8 tpf2, cI aC tes 5 tsf2, oX9 xtp tpo tpp tps tpa tpe tpb xt pk tpu tpw tpq tpt tun2 tfw2, cA aC tpo 8 tfo, cA aC tpp 8 tfp, cA aC tps 8 tfs, cK aC pk 7 fk, cO k0 0 [], cO k1 1 [], cO k2 3 [], cO k3 5 [], cO k4 6 [], cO k5 10 [], cO k6 8 [], cI aC tpa 8 tyf2, cI aC tpe 8 teg02, cI aC tpb 8 tbf2, cI aC tpu 7 tuf2, cI aC tpw 7 tvf2, cI aC tpq 128 tqf2, cI aC tpt 128 ttf2, cI aC xo 8 org, cI aC xr 7 rf2] (va_pl L (plE aC g2))) t.heap ∧ va_K (dC, dI) classes (TY aC) t ∧ va_D A (wp [oX11 h0 xp xtp xn xt xk xl xc xo xto xr xch ts ik st, oX4 xn ek ef ew ep es (nI n) (nI sn) dn, cI aC ek 8 kf, cI aC ef 8 ff, cI aC ew 8 wf, cI aC ep 8 pf, cI aC es 5 stf, oX4 xt tek tef tew tep tes tsz2 tsy2 tdn2, cI aC tek 8 tkf2, cI aC tef 8 tff2, cI aC tew 8 twf2, cI aC tep 8 tpf2, cI aC tes 5 tsf2, oX9 xtp tpo tpp tps tpa tpe tpb xt pk tpu tpw tpq tpt tun2 tfw2, cA aC tpo 8 tfo, cA aC tpp 8 tfp, cA aC tps 8 tfs, cK aC pk 7 fk, cO k0 0 [], cO k1 1 [], cO k2 3 [], cO k3 5 [], cO k4 6 [], cO k5 10 [], cO k6 8 [], cI aC tpa 8 tyf2, cI aC tpe 8 teg02, cI aC tpb 8 tbf2, cI aC tpu 7 tuf2, cI aC tpw 7 tvf2, cI aC tpq 128 tqf2, cI aC tpt 128 ttf2, cI aC xo 8 org, cI aC xr 7 rf2] (va_pl L (plE aC g2)))) A) ([Value.ref h0, Value.int i, Value.int a2, Value.int a3] : List Value).toArray s 0 0 A) (F0 m 51 ls []) := by
          intro fu
          induction fu with
          | zero => intro k x4 x5 tszc tsyc tdnc tunc tfwc tkfc tffc twfc tpfc tsfc tufc tvfc tqfc ttfc tbfc tyfc teg0c orc gc hfu; exact absurd hfu (Nat.not_lt_zero _)
          | succ fu ih_51 =>
            intro k x4 x5 tszc tsyc tdnc tunc tfwc tkfc tffc twfc tpfc tsfc tufc tvfc tqfc ttfc tbfc tyfc teg0c orc gc hfu hk hof hse H locs ls hP hD hS hl
            refine lv_iload hx hb dX11_seeds_51 (lv_at hl 6 rfl) ?_
            refine lv_iload_n hx hb dX11_seeds_53 rfl (lv_at hl 2 rfl) ?_
            refine lv_icmp_ge (tgt := 107) hx hb dX11_seeds_54 (by decide) (fun c_5 => ?_) (fun c_5 => ?_)
            · have hkn : k = nn := by
                rcases Nat.lt_or_ge k nn with q | q
                · exact absurd c_5 (nI_ge q (by omega))
                · omega
              refine lv_iload hx hb dX11_seeds_107 (lv_at hl 5 rfl) ?_
              have hpd9 := pd_P (cx := [oX11 h0 xp xtp xn xt xk xl xc xo xto xr xch ts ik st, oX4 xn ek ef ew ep es (nI n) (nI sn) dn, cI aC ek 8 kf, cI aC ef 8 ff, cI aC ew 8 wf, cI aC ep 8 pf, cI aC es 5 stf, oX4 xt tek tef tew tep tes tszc tsyc tdnc, cI aC tek 8 tkfc, cI aC tef 8 tffc, cI aC tew 8 twfc, cI aC tep 8 tpfc, cI aC tes 5 tsfc, oX9 xtp tpo tpp tps tpa tpe tpb xt pk tpu tpw tpq tpt tunc tfwc, cA aC tpo 8 tfo, cA aC tpp 8 tfp, cA aC tps 8 tfs, cK aC pk 7 fk, cO k0 0 [], cO k1 1 [], cO k2 3 [], cO k3 5 [], cO k4 6 [], cO k5 10 [], cO k6 8 [], cI aC tpa 8 tyfc, cI aC tpe 8 teg0c, cI aC tpb 8 tbfc, cI aC tpu 7 tufc, cI aC tpw 7 tvfc, cI aC tpq 128 tqfc, cI aC tpt 128 ttfc, cI aC xo 8 orc, cI aC xr 7 rf]) hP hD [0, 33, 1, 2, 3, 4, 5, 6, 7, 8, 9, 10, 11, 12, 13, 14, 15, 16, 17, 18, 19, 20, 21, 22, 23, 24, 25, 26, 27, 28, 29, 30, 31, 32] (by decide) rfl
              have hP9 := hpd9.1
              have hD9 := hpd9.2
              refine W.widen (k := 0) (n := 0) (by omega) (by omega) ?_
              exact W.iret (v := x5) hx hb hr (fun t ht hW => ⟨⟨x5, (tszc, tsyc, tdnc, tkfc, tffc, twfc, tpfc, tsfc, tunc, tfwc, tufc, tvfc, tqfc, ttfc, tbfc, tyfc, teg0c, gc, orc, rf), rfl, ⟨hof, by rw [hse.2]; unfold rSds; rw [if_pos (has_y hz_5 c_2), if_neg (Int32.not_lt.mpr c_3), if_neg (Int32.not_lt.mpr c_4), hne, ha9, nI_clamp (by omega), nI_clamp (by omega), hkn]⟩, by rw [ht]; exact hP9, va_K.moved hW.alike hK, hD9⟩, hS.F ht⟩) hS.2.2 dX11_seeds_109
            · have hlt : k < nn := by
                rcases Nat.lt_or_ge k nn with q | q
                · exact q
                · exact absurd (nI_le q (by omega)) c_5
              refine lv_aload_n hx hb dX11_seeds_57 rfl (lv_at hl 0 rfl) ?_
              refine lv_iload hx hb dX11_seeds_58 (lv_at hl 4 rfl) ?_
              have hpd9 := pdf_N (cx := [oX11 h0 xp xtp xn xt xk xl xc xo xto xr xch ts ik st, oX4 xn ek ef ew ep es (nI n) (nI sn) dn, cI aC xo 8 orc]) hP hD hS hA [0, 33, 31] (by decide) rfl
              have hPc := hpd9.1
              have hDc := hpd9.2.1
              have hFc := hpd9.2.2
              clear hpd9
              refine va_calli (va_runV (As := [Value.int x4]) (rest := []) ⟨hx, hb, hml, hown, hts⟩ (c_X11_drawOrder l dC dI aC H.size h0 xp xtp xn xt xk xl xc xo xto xr xch ts ik st ek ef ew ep es n sn dn orc x4 (hn8)) ⟨(callB_of 1 hts (gG kw_677) rfl rfl rfl (hts _ (gw kw_1 rfl)) (hts _ (gw kw_674 rfl)) hd_X11_drawOrder ⟨Nat.le_of_ble_eq_true rfl, Nat.le_of_ble_eq_true rfl⟩), (hts _ (gw kw_676 rfl)), (hts _ (gw ks_32 rfl))⟩ ⟨fb_std, va_recv (q := (RX11, TX11, 14)) hK hPc (ci := 11) (q0 := 0) rfl rfl, pre_std hPc hK hDc hN⟩ rfl rfl hl.1 rfl (lv_room (Nat.le_of_ble_eq_true rfl)) dX11_seeds_60 ⟨Nat.le_of_ble_eq_true rfl, Nat.le_of_ble_eq_true rfl⟩) hS (fun q _ h => hFc q h) hFc (fun x_6 u9 t9 H1 locs ht hvm hw_6 hB hz1 hk1 hS => ?_)
              obtain ⟨u_7, rfl⟩ : ∃ z, z = u9 := ⟨_, rfl⟩
              obtain ⟨hP1, hK1, hD1⟩ := hB
              rw [ht] at hP1
              clear hK1
              try dsimp only at hw_6
              have hpd9 : PDx (dC, dI) classes A H1 (wp [cI aC ek 8 kf, cI aC ef 8 ff, cI aC ew 8 wf, cI aC ep 8 pf, cI aC es 5 stf, oX4 xt tek tef tew tep tes tszc tsyc tdnc, cI aC tek 8 tkfc, cI aC tef 8 tffc, cI aC tew 8 twfc, cI aC tep 8 tpfc, cI aC tes 5 tsfc, oX9 xtp tpo tpp tps tpa tpe tpb xt pk tpu tpw tpq tpt tunc tfwc, cA aC tpo 8 tfo, cA aC tpp 8 tfp, cA aC tps 8 tfs, cK aC pk 7 fk, cO k0 0 [], cO k1 1 [], cO k2 3 [], cO k3 5 [], cO k4 6 [], cO k5 10 [], cO k6 8 [], cI aC tpa 8 tyfc, cI aC tpe 8 teg0c, cI aC tpb 8 tbfc, cI aC tpu 7 tufc, cI aC tpw 7 tvfc, cI aC tpq 128 tqfc, cI aC tpt 128 ttfc, cI aC xr 7 rf, oX11 h0 xp xtp xn xt xk xl xc xo xto xr xch ts ik st, oX4 xn ek ef ew ep es (nI n) (nI sn) dn, cI aC xo 8 u_7] (va_pl L (plE aC gc))) := jn_Q (wr := [cI aC ek 8 kf, cI aC ef 8 ff, cI aC ew 8 wf, cI aC ep 8 pf, cI aC es 5 stf, oX4 xt tek tef tew tep tes tszc tsyc tdnc, cI aC tek 8 tkfc, cI aC tef 8 tffc, cI aC tew 8 twfc, cI aC tep 8 tpfc, cI aC tes 5 tsfc, oX9 xtp tpo tpp tps tpa tpe tpb xt pk tpu tpw tpq tpt tunc tfwc, cA aC tpo 8 tfo, cA aC tpp 8 tfp, cA aC tps 8 tfs, cK aC pk 7 fk, cO k0 0 [], cO k1 1 [], cO k2 3 [], cO k3 5 [], cO k4 6 [], cO k5 10 [], cO k6 8 [], cI aC tpa 8 tyfc, cI aC tpe 8 teg0c, cI aC tpb 8 tbfc, cI aC tpu 7 tufc, cI aC tpw 7 tvfc, cI aC tpq 128 tqfc, cI aC tpt 128 ttfc, cI aC xr 7 rf]) hFc hk1 hP1 hD1 hP hD [0, 33, 31] [1, 2, 3, 4, 5, 6, 7, 8, 9, 10, 11, 12, 13, 14, 15, 16, 17, 18, 19, 20, 21, 22, 23, 24, 25, 26, 27, 28, 29, 30, 32] rfl rfl (by decide) (by decide)
              have hP := hpd9.1
              have hD := hpd9.2
              clear hpd9
              generalize H1 = H at hP hS ⊢
              clear hPc hDc hFc hz1 hk1 hP1 hD1 ht hvm
              have hdo := hw_6
              refine lv_istore (lv' := [(4, Value.int x_6), (0, Value.ref h0), (1, Value.int (nI a)), (2, Value.int (nI nn)), (3, Value.int a3), (5, Value.int x5), (6, Value.int (nI k))]) hx hb dX11_seeds_63 hl (by decide) rfl (fun ls hl => ?_)
              refine lv_aload_n hx hb dX11_seeds_65 rfl (lv_at hl 1 rfl) ?_
              have hpd9 := pdf_N (cx := [oX11 h0 xp xtp xn xt xk xl xc xo xto xr xch ts ik st, oX4 xn ek ef ew ep es (nI n) (nI sn) dn, cI aC ek 8 kf, cI aC ef 8 ff, cI aC ew 8 wf, cI aC ep 8 pf, cI aC es 5 stf, oX4 xt tek tef tew tep tes tszc tsyc tdnc, cI aC tek 8 tkfc, cI aC tef 8 tffc, cI aC tew 8 twfc, cI aC tep 8 tpfc, cI aC tes 5 tsfc, cI aC xo 8 u_7]) hP hD hS hA [31, 32, 0, 1, 2, 3, 4, 5, 6, 7, 8, 9, 10, 33] (by decide) rfl
              have hPc := hpd9.1
              have hDc := hpd9.2.1
              have hFc := hpd9.2.2
              clear hpd9
              refine va_callv (va_runV (As := []) (rest := []) ⟨hx, hb, hml, hown, hts⟩ (c_X11_seat l dC dI aC H.size h0 xp xtp xn xt xk xl xc xo xto xr xch ts ik st ek ef ew ep es n sn dn kf ff wf pf stf tek tef tew tep tes tszc tsyc tdnc tkfc tffc twfc tpfc tsfc u_7 tG (hn8) (hev.2.2.2.2)) ⟨(callB_of 0 hts (gG kw_621) rfl rfl rfl (hts _ (gw kw_1 rfl)) (hts _ (gw kw_618 rfl)) hd_X11_seat ⟨Nat.le_of_ble_eq_true rfl, Nat.le_of_ble_eq_true rfl⟩), (hts _ (gw kw_620 rfl)), (hts _ (gw ks_27 rfl))⟩ ⟨fun a U g mk q => by obtain ⟨q0, q1, qP, qK, qD, qN, z0, z1⟩ := q; exact ⟨q0, q1, qP, va_K.moved (u := U) (U := U.calling g mk a) (Vm.Alike.refl U.vm) qK, qD, NX.same (u := U) (U := U.calling g mk a) rfl qN, va_Z.moved (u := U) (U := U.calling g mk a) (Vm.Alike.refl U.vm) z0, va_T.moved (u := U) (U := U.calling g mk a) (Vm.Alike.refl U.vm) z1⟩, va_recv (q := (RX11, TX11, 14)) hK hPc (ci := 11) (q0 := 0) rfl rfl, fun U hU hW => ⟨rfl, by rw [hU], by rw [hU]; exact hPc, va_K.moved hW.alike hK, hDc.weaken (fun _ _ _ _ => trivial), NX.warm hW hN, by rw [hU]; exact va_Z.moved hW.alike (va_Z.narrow (va_Z.kept hZG hS.2.1) hFc), by rw [hU]; exact va_T.moved hW.alike (va_T.narrow (va_T.kept hTG hS.2.1) hFc)⟩⟩ rfl rfl hl.1 rfl (lv_room (Nat.le_of_ble_eq_true rfl)) dX11_seeds_66 ⟨Nat.le_of_ble_eq_true rfl, Nat.le_of_ble_eq_true rfl⟩) hS (fun q _ h => hFc q h) hFc (fun u9 t9 H1 locs ht hvm hw_8 hB hz1 hk1 hS => ?_)
              obtain ⟨u_9, u_10, u_11, u_12, u_13⟩ := u9
              obtain ⟨hP1, hK1, hD1⟩ := hB
              rw [ht] at hP1
              clear hK1
              try dsimp only at hw_8
              have hpd9 : PDx (dC, dI) classes A H1 (wp [oX9 xtp tpo tpp tps tpa tpe tpb xt pk tpu tpw tpq tpt tunc tfwc, cA aC tpo 8 tfo, cA aC tpp 8 tfp, cA aC tps 8 tfs, cK aC pk 7 fk, cO k0 0 [], cO k1 1 [], cO k2 3 [], cO k3 5 [], cO k4 6 [], cO k5 10 [], cO k6 8 [], cI aC tpa 8 tyfc, cI aC tpe 8 teg0c, cI aC tpb 8 tbfc, cI aC tpu 7 tufc, cI aC tpw 7 tvfc, cI aC tpq 128 tqfc, cI aC tpt 128 ttfc, cI aC xr 7 rf, oX11 h0 xp xtp xn xt xk xl xc xo xto xr xch ts ik st, oX4 xn ek ef ew ep es (nI n) (nI sn) dn, cI aC ek 8 kf, cI aC ef 8 ff, cI aC ew 8 wf, cI aC ep 8 pf, cI aC es 5 stf, oX4 xt tek tef tew tep tes (nI n) (nI sn) dn, cI aC tek 8 u_9, cI aC tef 8 u_10, cI aC tew 8 u_11, cI aC tep 8 u_12, cI aC tes 5 u_13, cI aC xo 8 u_7] (va_pl L (plE aC gc))) := jn_Q (wr := [oX9 xtp tpo tpp tps tpa tpe tpb xt pk tpu tpw tpq tpt tunc tfwc, cA aC tpo 8 tfo, cA aC tpp 8 tfp, cA aC tps 8 tfs, cK aC pk 7 fk, cO k0 0 [], cO k1 1 [], cO k2 3 [], cO k3 5 [], cO k4 6 [], cO k5 10 [], cO k6 8 [], cI aC tpa 8 tyfc, cI aC tpe 8 teg0c, cI aC tpb 8 tbfc, cI aC tpu 7 tufc, cI aC tpw 7 tvfc, cI aC tpq 128 tqfc, cI aC tpt 128 ttfc, cI aC xr 7 rf]) hFc hk1 hP1 hD1 hP hD [31, 32, 0, 1, 2, 3, 4, 5, 6, 7, 8, 9, 10, 33] [11, 12, 13, 14, 15, 16, 17, 18, 19, 20, 21, 22, 23, 24, 25, 26, 27, 28, 29, 30] rfl rfl (by decide) (by decide)
              have hP := hpd9.1
              have hD := hpd9.2
              clear hpd9
              generalize H1 = H at hP hS ⊢
              clear hPc hDc hFc hz1 hk1 hP1 hD1 ht hvm
              have hc8 := hw_8
              refine lv_aload_n hx hb dX11_seeds_69 rfl (lv_at hl 1 rfl) ?_
              refine va_get (D := (dC, dI)) (ci := 11) (v := Value.ref xtp) (C := RX11) (T := TX11) (N := 14) hx hb hts inX11 hown hK hP 20 rfl rfl 1 (by decide) (hts _ (gw kw_227 rfl)) (fun _ h9 => h9) rfl dX11_seeds_70 ?_
              refine lv_iconst (v := 0) hx hb dX11_seeds_73 (by decide) ?_
              have hprm : PRM n (sds n x4) := sds_prm (by omega)
              have hev9 := EVS_pm (s := sds n x4) (tk := u_9) (tf := u_10) (tw := u_11) hev hprm.1 (fun q hq => by rw [hc8.1 q (by omega), if_pos hq, sgb hn8 (hprm.1 q hq) (hdo.2 q hq)]) (fun q hq => by rw [hc8.2.1 q (by omega), if_pos hq, sgb hn8 (hprm.1 q hq) (hdo.2 q hq)]) (fun q hq => by rw [hc8.2.2.1 q (by omega), if_pos hq, sgb hn8 (hprm.1 q hq) (hdo.2 q hq)]) hc8.2.2.2.2
              refine lv_topi (fun x_14 e_14 => ?_)
              have h9 : x_14 = nI 0 := by rw [e_14]; rfl
              subst h9
              have hpd9 := pdf_P (cx := [oX9 xtp tpo tpp tps tpa tpe tpb xt pk tpu tpw tpq tpt tunc tfwc, oX4 xt tek tef tew tep tes (nI n) (nI sn) dn, cI aC tek 8 u_9, cI aC tef 8 u_10, cI aC tew 8 u_11, cI aC tes 5 u_13, cA aC tpo 8 tfo, cA aC tpp 8 tfp, cA aC tps 8 tfs, cK aC pk 7 fk, cO k0 0 [], cO k1 1 [], cO k2 3 [], cO k3 5 [], cO k4 6 [], cO k5 10 [], cO k6 8 [], cI aC tpa 8 tyfc, cI aC tpe 8 teg0c, cI aC tpb 8 tbfc, cI aC tpu 7 tufc, cI aC tpw 7 tvfc, cI aC tpq 128 tqfc, cI aC tpt 128 ttfc]) hP hD hS hA [0, 27, 28, 29, 30, 32, 1, 2, 3, 4, 5, 6, 7, 8, 9, 10, 11, 12, 13, 14, 15, 16, 17, 18] (by decide) rfl
              have hPc := hpd9.1
              have hDc := hpd9.2.1
              have hFc := hpd9.2.2
              clear hpd9
              refine va_callv (va_runV (As := [Value.int (nI 0)]) (rest := []) ⟨hx, hb, hml, hown, hts⟩ (c_X9_solve l dC dI aC H.size xtp tpo tpp tps tpa tpe tpb xt pk tpu tpw tpq tpt tunc tfwc tek tef tew tep tes n (nI sn) dn u_9 u_10 u_11 u_13 (fun q => K (sds n x4 q)) (fun q => F (sds n x4 q)) (fun q => W0 (sds n x4 q)) (S5 0) L gc tfo tfp tfs tro trp trs fk k0 k1 k2 k3 k4 k5 k6 (PO n (fun q => K (sds n x4 q)) (fun q => F (sds n x4 q)) (fun q => W0 (sds n x4 q)) S5) 0 tufc tvfc tqfc ttfc tbfc tyfc teg0c (htg) (hev9.1) (hkd) (PO_cl hev9) (by omega)) ⟨(callB_of 1 hts (gG kw_357) rfl rfl rfl (hts _ (gw kw_11 rfl)) (hts _ (gw kw_354 rfl)) hd_X9_solve ⟨Nat.le_of_ble_eq_true rfl, Nat.le_of_ble_eq_true rfl⟩), (hts _ (gw kw_355 rfl)), (hts _ (gw kw_356 rfl))⟩ ⟨fb_std, va_recv (q := (RX9, TX9, 14)) hK hPc (ci := 9) (q0 := 0) rfl rfl, pre_std hPc hK hDc hN⟩ rfl rfl hl.1 rfl (lv_room (Nat.le_of_ble_eq_true rfl)) dX11_seeds_74 ⟨Nat.le_of_ble_eq_true rfl, Nat.le_of_ble_eq_true rfl⟩) hS (fun q _ h => hFc q h) hFc (fun u9 t9 H1 locs ht hvm hw_15 hB hz1 hk1 hS => ?_)
              obtain ⟨u_16, u_17, u_18, u_19, u_20, u_21, u_22, u_23, u_24, u_25⟩ := u9
              obtain ⟨hP1, hK1, hD1⟩ := hB
              rw [ht] at hP1
              clear hK1
              try dsimp only at hw_15
              have hpd9 : PDx (dC, dI) classes A H1 (wp [cI aC xr 7 rf, oX11 h0 xp xtp xn xt xk xl xc xo xto xr xch ts ik st, oX4 xn ek ef ew ep es (nI n) (nI sn) dn, cI aC ek 8 kf, cI aC ef 8 ff, cI aC ew 8 wf, cI aC ep 8 pf, cI aC es 5 stf, cI aC tep 8 u_12, cI aC xo 8 u_7, oX9 xtp tpo tpp tps tpa tpe tpb xt pk tpu tpw tpq tpt u_16 u_17, oX4 xt tek tef tew tep tes (nI n) (nI sn) dn, cI aC tek 8 u_9, cI aC tef 8 u_10, cI aC tew 8 u_11, cI aC tes 5 u_13, cA aC tpo 8 tfo, cA aC tpp 8 tfp, cA aC tps 8 tfs, cK aC pk 7 fk, cO k0 0 [], cO k1 1 [], cO k2 3 [], cO k3 5 [], cO k4 6 [], cO k5 10 [], cO k6 8 [], cI aC tpa 8 u_23, cI aC tpe 8 u_24, cI aC tpb 8 u_22, cI aC tpu 7 u_18, cI aC tpw 7 u_19, cI aC tpq 128 u_20, cI aC tpt 128 u_21] (va_pl L (plE aC u_25))) := jn_P (wr := [cI aC xr 7 rf, oX11 h0 xp xtp xn xt xk xl xc xo xto xr xch ts ik st, oX4 xn ek ef ew ep es (nI n) (nI sn) dn, cI aC ek 8 kf, cI aC ef 8 ff, cI aC ew 8 wf, cI aC ep 8 pf, cI aC es 5 stf, cI aC tep 8 u_12, cI aC xo 8 u_7]) hFc hk1 hP1 hD1 hP hD [0, 27, 28, 29, 30, 32, 1, 2, 3, 4, 5, 6, 7, 8, 9, 10, 11, 12, 13, 14, 15, 16, 17, 18] [19, 20, 21, 22, 23, 24, 25, 26, 31, 33] rfl rfl (by decide) (by decide)
              have hP := hpd9.1
              have hD := hpd9.2
              clear hpd9
              generalize H1 = H at hP hS ⊢
              clear hPc hDc hFc hz1 hk1 hP1 hD1 ht hvm
              obtain ⟨ht1, ht2⟩ := hw_15
              have hof2 : ∀ a, OFF tro trp trs a → u_25 a = g a := fun a ha => (ht2 a ha).trans (hof a ha)
              refine lv_iload hx hb dX11_seeds_77 (lv_at hl 5 rfl) ?_
              refine lv_iconst (v := 0) hx hb dX11_seeds_79 (by decide) ?_
              refine lv_aload_n hx hb dX11_seeds_80 rfl (lv_at hl 1 rfl) ?_
              refine va_get (D := (dC, dI)) (ci := 11) (v := Value.ref xtp) (C := RX11) (T := TX11) (N := 14) hx hb hts inX11 hown hK hP 1 rfl rfl 1 (by decide) (hts _ (gw kw_227 rfl)) (fun _ h9 => h9) rfl dX11_seeds_81 ?_
              refine va_get (D := (dC, dI)) (ci := 9) (v := Value.ref tps) (C := RX9) (T := TX9) (N := 14) hx hb hts inX9 hown hK hP 10 rfl rfl 2 (by decide) (hts _ (gw kw_155 rfl)) (fun _ h9 => h9) rfl dX11_seeds_84 ?_
              refine lv_iconst (v := 0) hx hb dX11_seeds_87 (by decide) ?_
              refine lv_topi (fun x_26 e_26 => ?_)
              have h9 : x_26 = nI 0 := by rw [e_26]; rfl
              subst h9
              have h_27 : vp_in (nI 0) 8 := by first | exact vp_in_nI (by omega) (by omega) | (unfold vp_in; decide) | (subst_vars; first | (unfold vp_in; decide) | exact vp_in_nI (by omega) (by omega))
              refine va_alda (r := trs 0) hx hb hK hP 18 rfl h_27 (by rw [nI_clamp (by omega)]; exact (htg.1 0 (by omega)).2.2.1) dX11_seeds_88 ?_
              refine lv_aload_n hx hb dX11_seeds_89 rfl (lv_at hl 1 rfl) ?_
              refine lv_iload_n hx hb dX11_seeds_90 rfl (lv_at hl 2 rfl) ?_
              have hpd9 := pdf_N (cx := [oX11 h0 xp xtp xn xt xk xl xc xo xto xr xch ts ik st, oX4 xn ek ef ew ep es (nI n) (nI sn) dn, cI aC xo 8 u_7]) hP hD hS hA [1, 2, 9] (by decide) rfl
              have hPc := hpd9.1
              have hDc := hpd9.2.1
              have hFc := hpd9.2.2
              clear hpd9
              refine va_calli (va_runV (As := [Value.int (nI a)]) (rest := [Value.ref (trs 0), Value.int 0, Value.int x5]) ⟨hx, hb, hml, hown, hts⟩ (c_X11_placeOf l dC dI aC H.size h0 xp xtp xn xt xk xl xc xo xto xr xch ts ik st ek ef ew ep es n sn dn u_7 a (sds n x4) (hn8) (ha8) (hdo.2) (hprm.1)) ⟨(callB_of 1 hts (gG kw_684) rfl rfl rfl (hts _ (gw kw_1 rfl)) (hts _ (gw kw_681 rfl)) hd_X11_placeOf ⟨Nat.le_of_ble_eq_true rfl, Nat.le_of_ble_eq_true rfl⟩), (hts _ (gw kw_683 rfl)), (hts _ (gw ks_33 rfl))⟩ ⟨fb_std, va_recv (q := (RX11, TX11, 14)) hK hPc (ci := 11) (q0 := 0) rfl rfl, pre_std hPc hK hDc hN⟩ rfl rfl hl.1 rfl (lv_room (Nat.le_of_ble_eq_true rfl)) dX11_seeds_91 ⟨Nat.le_of_ble_eq_true rfl, Nat.le_of_ble_eq_true rfl⟩) hS (fun q _ h => hFc q h) hFc (fun x_28 u9 t9 H1 locs ht hvm hw_28 hB hz1 hk1 hS => ?_)
              obtain ⟨hP1, hK1, hD1⟩ := hB
              rw [ht] at hP1
              clear hK1
              try dsimp only at hw_28
              have hpd9 : PDx (dC, dI) classes A H1 (wp [cI aC xr 7 rf, cI aC ek 8 kf, cI aC ef 8 ff, cI aC ew 8 wf, cI aC ep 8 pf, cI aC es 5 stf, cI aC tep 8 u_12, oX9 xtp tpo tpp tps tpa tpe tpb xt pk tpu tpw tpq tpt u_16 u_17, oX4 xt tek tef tew tep tes (nI n) (nI sn) dn, cI aC tek 8 u_9, cI aC tef 8 u_10, cI aC tew 8 u_11, cI aC tes 5 u_13, cA aC tpo 8 tfo, cA aC tpp 8 tfp, cA aC tps 8 tfs, cK aC pk 7 fk, cO k0 0 [], cO k1 1 [], cO k2 3 [], cO k3 5 [], cO k4 6 [], cO k5 10 [], cO k6 8 [], cI aC tpa 8 u_23, cI aC tpe 8 u_24, cI aC tpb 8 u_22, cI aC tpu 7 u_18, cI aC tpw 7 u_19, cI aC tpq 128 u_20, cI aC tpt 128 u_21, oX11 h0 xp xtp xn xt xk xl xc xo xto xr xch ts ik st, oX4 xn ek ef ew ep es (nI n) (nI sn) dn, cI aC xo 8 u_7] (va_pl L (plE aC u_25))) := jn_Q (wr := [cI aC xr 7 rf, cI aC ek 8 kf, cI aC ef 8 ff, cI aC ew 8 wf, cI aC ep 8 pf, cI aC es 5 stf, cI aC tep 8 u_12, oX9 xtp tpo tpp tps tpa tpe tpb xt pk tpu tpw tpq tpt u_16 u_17, oX4 xt tek tef tew tep tes (nI n) (nI sn) dn, cI aC tek 8 u_9, cI aC tef 8 u_10, cI aC tew 8 u_11, cI aC tes 5 u_13, cA aC tpo 8 tfo, cA aC tpp 8 tfp, cA aC tps 8 tfs, cK aC pk 7 fk, cO k0 0 [], cO k1 1 [], cO k2 3 [], cO k3 5 [], cO k4 6 [], cO k5 10 [], cO k6 8 [], cI aC tpa 8 u_23, cI aC tpe 8 u_24, cI aC tpb 8 u_22, cI aC tpu 7 u_18, cI aC tpw 7 u_19, cI aC tpq 128 u_20, cI aC tpt 128 u_21]) hFc hk1 hP1 hD1 hP hD [1, 2, 9] [0, 3, 4, 5, 6, 7, 8, 10, 11, 12, 13, 14, 15, 16, 17, 18, 19, 20, 21, 22, 23, 24, 25, 26, 27, 28, 29, 30, 31, 32, 33] rfl rfl (by decide) (by decide)
              have hP := hpd9.1
              have hD := hpd9.2
              clear hpd9
              generalize H1 = H at hP hS ⊢
              clear hPc hDc hFc hz1 hk1 hP1 hD1 ht hvm
              have hple := hw_28
              have h9 : x_28 = nI (plc (sds n x4) a n) := hple
              subst h9
              have hpln := plc_lt (s := sds n x4) (m := a) n (by omega)
              have h_29 : vp_in (nI (plc (sds n x4) a n)) 8 := vp_in_nI (by omega) (by omega)
              refine pl_iald hx hb hK hP ((htg.1 0 (by omega)).2.2.2) h_29 dX11_seeds_94 ?_
              refine lv_topi (fun x_30 e_30 => ?_)
              have h9 : x_30 = iI (zS (PO n (fun q => K (sds n x4 q)) (fun q => F (sds n x4 q)) (fun q => W0 (sds n x4 q)) S5) 0 (plc (sds n x4) a n)) := by rw [e_30, nI_clamp (by omega)]; exact (ht1 0 (by omega) (by omega)).2.2.1 _ (by omega)
              subst h9
              refine va_mmax hx hb (by rw [hml]; exact hl.1.symm) hown (hts _ (gw kw_685 rfl)) (hts _ (gw kw_374 rfl)) (hts _ (gw kw_14 rfl)) (hts _ (gw kw_375 rfl)) (Nat.le_of_ble_eq_true rfl) (Nat.le_of_ble_eq_true rfl) (Nat.zero_le _) (Nat.zero_le _) dX11_seeds_95 ?_
              refine lv_topi (fun x_31 e_31 => ?_)
              have h9 : x_31 = svl n K F W0 S5 a x4 := by rw [e_31]; exact max0_z (zS_sm hev9 (by omega))
              subst h9
              refine lv_iadd hx hb dX11_seeds_98 ?_
              refine lv_topi (fun x_32 e_32 => ?_)
              refine lv_istore (lv' := [(5, Value.int x_32), (4, Value.int x_6), (0, Value.ref h0), (1, Value.int (nI a)), (2, Value.int (nI nn)), (3, Value.int a3), (6, Value.int (nI k))]) hx hb dX11_seeds_99 hl (by decide) rfl (fun ls hl => ?_)
              have hse2 : x_6 = (sev n K F W0 S5 a a3 (k + 1)).1 ∧ x_32 = (sev n K F W0 S5 a a3 (k + 1)).2 := ⟨by show _ = sdz n (sev n K F W0 S5 a a3 k).1; rw [← hse.1]; exact hdo.1, by show _ = (sev n K F W0 S5 a a3 k).2 + svl n K F W0 S5 a (sev n K F W0 S5 a a3 k).1; rw [← hse.1, ← hse.2]; exact e_32⟩
              obtain ⟨x_33, e_33⟩ : ∃ y : Int32, y = (nI k) + 1 := ⟨_, rfl⟩
              refine lv_iinc (v := x_33) (lv' := [(6, Value.int x_33), (5, Value.int x_32), (4, Value.int x_6), (0, Value.ref h0), (1, Value.int (nI a)), (2, Value.int (nI nn)), (3, Value.int a3)]) hx hb dX11_seeds_101 hl (k := 6) rfl (by rw [e_33]; rfl) (by decide) rfl (fun ls hl => ?_)
              have h9 : x_33 = nI (k + 1) := by rw [e_33, nI_1]
              subst h9
              refine lv_goto (tgt := 51) hx hb dX11_seeds_104 (by decide) ?_
              exact ih_51 (k + 1) x_6 x_32 (nI n) (nI sn) dn u_16 u_17 u_9 u_10 u_11 u_12 u_13 u_18 u_19 u_20 u_21 u_22 u_23 u_24 u_7 u_25 (by omega) (by omega) (hof2) (hse2) _ _ _ (plP hP [31, 1, 2, 3, 4, 5, 8, 9, 10, 11, 6, 12, 7, 13, 14, 15, 16, 17, 18, 19, 20, 21, 22, 23, 24, 25, 26, 27, 28, 29, 30, 33, 0, 32] rfl) (plD hD [31, 1, 2, 3, 4, 5, 8, 9, 10, 11, 6, 12, 7, 13, 14, 15, 16, 17, 18, 19, 20, 21, 22, 23, 24, 25, 26, 27, 28, 29, 30, 33, 0, 32] (by decide) rfl) hS (lv_sub hl [3, 4, 5, 6, 2, 1, 0] rfl)
        exact lp_51 ((nn - 0) + 1) 0 a3 0 tsz tsy tdn tun tfw tkf tff twf tpf tsf tuf tvf tqf ttf tbf tyf teg0 orf g (Nat.lt_succ_self _) (by omega) (fun a _ => rfl) (⟨rfl, rfl⟩) _ _ _ (plP hP [0, 1, 2, 3, 4, 5, 6, 7, 8, 9, 10, 11, 12, 13, 14, 15, 16, 17, 18, 19, 20, 21, 22, 23, 24, 25, 26, 27, 28, 29, 30, 31, 32, 33] rfl) (plD hD [0, 1, 2, 3, 4, 5, 6, 7, 8, 9, 10, 11, 12, 13, 14, 15, 16, 17, 18, 19, 20, 21, 22, 23, 24, 25, 26, 27, 28, 29, 30, 31, 32, 33] (by decide) rfl) hS (lv_sub hl [3, 4, 5, 6, 2, 1, 0] rfl)
      · refine lv_aload_n hx hb dX11_seeds_35 rfl (lv_at hl 0 rfl) ?_
        refine lv_bipush (v := -6) hx hb dX11_seeds_36 (by decide) ?_
        have hpd9 := pdf_N (cx := [oX11 h0 xp xtp xn xt xk xl xc xo xto xr xch ts ik st, cI aC xr 7 rf]) hP hD hS hA [0, 32] (by decide) rfl
        have hPc := hpd9.1
        have hDc := hpd9.2.1
        have hFc := hpd9.2.2
        clear hpd9
        refine va_calli (va_runV (As := [Value.int (-6)]) (rest := []) ⟨hx, hb, hml, hown, hts⟩ (c_X11_refuse l dC dI aC H.size h0 xp xtp xn xt xk xl xc xo xto xr xch ts ik st (-6) 6 rf (by decide) (by decide) (by decide) (by unfold vp_in; decide)) ⟨(callB_of 1 hts (gG kw_276) rfl rfl rfl (hts _ (gw kw_1 rfl)) (hts _ (gw kw_273 rfl)) hd_X11_refuse ⟨Nat.le_of_ble_eq_true rfl, Nat.le_of_ble_eq_true rfl⟩), (hts _ (gw kw_275 rfl)), (hts _ (gw ks_0 rfl))⟩ ⟨fb_std, va_recv (q := (RX11, TX11, 14)) hK hPc (ci := 11) (q0 := 0) rfl rfl, pre_std hPc hK hDc hN⟩ rfl rfl hl.1 rfl (lv_room (Nat.le_of_ble_eq_true rfl)) dX11_seeds_38 ⟨Nat.le_of_ble_eq_true rfl, Nat.le_of_ble_eq_true rfl⟩) hS (fun q _ h => hFc q h) hFc (fun x_34 u9 t9 H1 locs ht hvm hw_34 hB hz1 hk1 hS => ?_)
        obtain ⟨u_35, rfl⟩ : ∃ z, z = u9 := ⟨_, rfl⟩
        obtain ⟨hP1, hK1, hD1⟩ := hB
        rw [ht] at hP1
        clear hK1
        try dsimp only at hw_34
        have hpd9 : PDx (dC, dI) classes A H1 (wp [cI aC ek 8 kf, cI aC ef 8 ff, cI aC ew 8 wf, cI aC ep 8 pf, cI aC es 5 stf, oX4 xt tek tef tew tep tes tsz tsy tdn, cI aC tek 8 tkf, cI aC tef 8 tff, cI aC tew 8 twf, cI aC tep 8 tpf, cI aC tes 5 tsf, oX9 xtp tpo tpp tps tpa tpe tpb xt pk tpu tpw tpq tpt tun tfw, cA aC tpo 8 tfo, cA aC tpp 8 tfp, cA aC tps 8 tfs, cK aC pk 7 fk, cO k0 0 [], cO k1 1 [], cO k2 3 [], cO k3 5 [], cO k4 6 [], cO k5 10 [], cO k6 8 [], cI aC tpa 8 tyf, cI aC tpe 8 teg0, cI aC tpb 8 tbf, cI aC tpu 7 tuf, cI aC tpw 7 tvf, cI aC tpq 128 tqf, cI aC tpt 128 ttf, cI aC xo 8 orf, oX4 xn ek ef ew ep es (nI n) (nI sn) dn, oX11 h0 xp xtp xn xt xk xl xc xo xto xr xch ts ik st, cI aC xr 7 u_35] (va_pl L (plE aC g))) := jn_Q (wr := [cI aC ek 8 kf, cI aC ef 8 ff, cI aC ew 8 wf, cI aC ep 8 pf, cI aC es 5 stf, oX4 xt tek tef tew tep tes tsz tsy tdn, cI aC tek 8 tkf, cI aC tef 8 tff, cI aC tew 8 twf, cI aC tep 8 tpf, cI aC tes 5 tsf, oX9 xtp tpo tpp tps tpa tpe tpb xt pk tpu tpw tpq tpt tun tfw, cA aC tpo 8 tfo, cA aC tpp 8 tfp, cA aC tps 8 tfs, cK aC pk 7 fk, cO k0 0 [], cO k1 1 [], cO k2 3 [], cO k3 5 [], cO k4 6 [], cO k5 10 [], cO k6 8 [], cI aC tpa 8 tyf, cI aC tpe 8 teg0, cI aC tpb 8 tbf, cI aC tpu 7 tuf, cI aC tpw 7 tvf, cI aC tpq 128 tqf, cI aC tpt 128 ttf, cI aC xo 8 orf, oX4 xn ek ef ew ep es (nI n) (nI sn) dn]) hFc hk1 hP1 hD1 hP hD [0, 32] [1, 2, 3, 4, 5, 6, 7, 8, 9, 10, 11, 12, 13, 14, 15, 16, 17, 18, 19, 20, 21, 22, 23, 24, 25, 26, 27, 28, 29, 30, 31, 33] rfl rfl (by decide) (by decide)
        have hP := hpd9.1
        have hD := hpd9.2
        clear hpd9
        generalize H1 = H at hP hS ⊢
        clear hPc hDc hFc hz1 hk1 hP1 hD1 ht hvm
        obtain ⟨hv9, -⟩ := hw_34
        have hpd9 := pd_P (cx := [oX11 h0 xp xtp xn xt xk xl xc xo xto xr xch ts ik st, oX4 xn ek ef ew ep es (nI n) (nI sn) dn, cI aC ek 8 kf, cI aC ef 8 ff, cI aC ew 8 wf, cI aC ep 8 pf, cI aC es 5 stf, oX4 xt tek tef tew tep tes tsz tsy tdn, cI aC tek 8 tkf, cI aC tef 8 tff, cI aC tew 8 twf, cI aC tep 8 tpf, cI aC tes 5 tsf, oX9 xtp tpo tpp tps tpa tpe tpb xt pk tpu tpw tpq tpt tun tfw, cA aC tpo 8 tfo, cA aC tpp 8 tfp, cA aC tps 8 tfs, cK aC pk 7 fk, cO k0 0 [], cO k1 1 [], cO k2 3 [], cO k3 5 [], cO k4 6 [], cO k5 10 [], cO k6 8 [], cI aC tpa 8 tyf, cI aC tpe 8 teg0, cI aC tpb 8 tbf, cI aC tpu 7 tuf, cI aC tpw 7 tvf, cI aC tpq 128 tqf, cI aC tpt 128 ttf, cI aC xo 8 orf, cI aC xr 7 u_35]) hP hD [32, 31, 0, 1, 2, 3, 4, 5, 6, 7, 8, 9, 10, 11, 12, 13, 14, 15, 16, 17, 18, 19, 20, 21, 22, 23, 24, 25, 26, 27, 28, 29, 30, 33] (by decide) rfl
        have hP9 := hpd9.1
        have hD9 := hpd9.2
        refine W.widen (k := 0) (n := 0) (by omega) (by omega) ?_
        exact W.iret (v := x_34) hx hb hr (fun t ht hW => ⟨⟨x_34, (tsz, tsy, tdn, tkf, tff, twf, tpf, tsf, tun, tfw, tuf, tvf, tqf, ttf, tbf, tyf, teg0, g, orf, u_35), rfl, ⟨fun a _ => rfl, by rw [hv9]; unfold rSds; rw [if_pos (has_y hz_5 c_2), if_neg (Int32.not_lt.mpr c_3), if_pos (Int32.not_le.mp c_4)]⟩, by rw [ht]; exact hP9, va_K.moved hW.alike hK, hD9⟩, hS.F ht⟩) hS.2.2 dX11_seeds_41
    · refine lv_aload_n hx hb dX11_seeds_22 rfl (lv_at hl 0 rfl) ?_
      refine lv_bipush (v := -4) hx hb dX11_seeds_23 (by decide) ?_
      have hpd9 := pdf_N (cx := [oX11 h0 xp xtp xn xt xk xl xc xo xto xr xch ts ik st, cI aC xr 7 rf]) hP hD hS hA [0, 32] (by decide) rfl
      have hPc := hpd9.1
      have hDc := hpd9.2.1
      have hFc := hpd9.2.2
      clear hpd9
      refine va_calli (va_runV (As := [Value.int (-4)]) (rest := []) ⟨hx, hb, hml, hown, hts⟩ (c_X11_refuse l dC dI aC H.size h0 xp xtp xn xt xk xl xc xo xto xr xch ts ik st (-4) 4 rf (by decide) (by decide) (by decide) (by unfold vp_in; decide)) ⟨(callB_of 1 hts (gG kw_276) rfl rfl rfl (hts _ (gw kw_1 rfl)) (hts _ (gw kw_273 rfl)) hd_X11_refuse ⟨Nat.le_of_ble_eq_true rfl, Nat.le_of_ble_eq_true rfl⟩), (hts _ (gw kw_275 rfl)), (hts _ (gw ks_0 rfl))⟩ ⟨fb_std, va_recv (q := (RX11, TX11, 14)) hK hPc (ci := 11) (q0 := 0) rfl rfl, pre_std hPc hK hDc hN⟩ rfl rfl hl.1 rfl (lv_room (Nat.le_of_ble_eq_true rfl)) dX11_seeds_25 ⟨Nat.le_of_ble_eq_true rfl, Nat.le_of_ble_eq_true rfl⟩) hS (fun q _ h => hFc q h) hFc (fun x_36 u9 t9 H1 locs ht hvm hw_36 hB hz1 hk1 hS => ?_)
      obtain ⟨u_37, rfl⟩ : ∃ z, z = u9 := ⟨_, rfl⟩
      obtain ⟨hP1, hK1, hD1⟩ := hB
      rw [ht] at hP1
      clear hK1
      try dsimp only at hw_36
      have hpd9 : PDx (dC, dI) classes A H1 (wp [cI aC ek 8 kf, cI aC ef 8 ff, cI aC ew 8 wf, cI aC ep 8 pf, cI aC es 5 stf, oX4 xt tek tef tew tep tes tsz tsy tdn, cI aC tek 8 tkf, cI aC tef 8 tff, cI aC tew 8 twf, cI aC tep 8 tpf, cI aC tes 5 tsf, oX9 xtp tpo tpp tps tpa tpe tpb xt pk tpu tpw tpq tpt tun tfw, cA aC tpo 8 tfo, cA aC tpp 8 tfp, cA aC tps 8 tfs, cK aC pk 7 fk, cO k0 0 [], cO k1 1 [], cO k2 3 [], cO k3 5 [], cO k4 6 [], cO k5 10 [], cO k6 8 [], cI aC tpa 8 tyf, cI aC tpe 8 teg0, cI aC tpb 8 tbf, cI aC tpu 7 tuf, cI aC tpw 7 tvf, cI aC tpq 128 tqf, cI aC tpt 128 ttf, cI aC xo 8 orf, oX4 xn ek ef ew ep es (nI n) (nI sn) dn, oX11 h0 xp xtp xn xt xk xl xc xo xto xr xch ts ik st, cI aC xr 7 u_37] (va_pl L (plE aC g))) := jn_Q (wr := [cI aC ek 8 kf, cI aC ef 8 ff, cI aC ew 8 wf, cI aC ep 8 pf, cI aC es 5 stf, oX4 xt tek tef tew tep tes tsz tsy tdn, cI aC tek 8 tkf, cI aC tef 8 tff, cI aC tew 8 twf, cI aC tep 8 tpf, cI aC tes 5 tsf, oX9 xtp tpo tpp tps tpa tpe tpb xt pk tpu tpw tpq tpt tun tfw, cA aC tpo 8 tfo, cA aC tpp 8 tfp, cA aC tps 8 tfs, cK aC pk 7 fk, cO k0 0 [], cO k1 1 [], cO k2 3 [], cO k3 5 [], cO k4 6 [], cO k5 10 [], cO k6 8 [], cI aC tpa 8 tyf, cI aC tpe 8 teg0, cI aC tpb 8 tbf, cI aC tpu 7 tuf, cI aC tpw 7 tvf, cI aC tpq 128 tqf, cI aC tpt 128 ttf, cI aC xo 8 orf, oX4 xn ek ef ew ep es (nI n) (nI sn) dn]) hFc hk1 hP1 hD1 hP hD [0, 32] [1, 2, 3, 4, 5, 6, 7, 8, 9, 10, 11, 12, 13, 14, 15, 16, 17, 18, 19, 20, 21, 22, 23, 24, 25, 26, 27, 28, 29, 30, 31, 33] rfl rfl (by decide) (by decide)
      have hP := hpd9.1
      have hD := hpd9.2
      clear hpd9
      generalize H1 = H at hP hS ⊢
      clear hPc hDc hFc hz1 hk1 hP1 hD1 ht hvm
      obtain ⟨hv9, -⟩ := hw_36
      have hpd9 := pd_P (cx := [oX11 h0 xp xtp xn xt xk xl xc xo xto xr xch ts ik st, oX4 xn ek ef ew ep es (nI n) (nI sn) dn, cI aC ek 8 kf, cI aC ef 8 ff, cI aC ew 8 wf, cI aC ep 8 pf, cI aC es 5 stf, oX4 xt tek tef tew tep tes tsz tsy tdn, cI aC tek 8 tkf, cI aC tef 8 tff, cI aC tew 8 twf, cI aC tep 8 tpf, cI aC tes 5 tsf, oX9 xtp tpo tpp tps tpa tpe tpb xt pk tpu tpw tpq tpt tun tfw, cA aC tpo 8 tfo, cA aC tpp 8 tfp, cA aC tps 8 tfs, cK aC pk 7 fk, cO k0 0 [], cO k1 1 [], cO k2 3 [], cO k3 5 [], cO k4 6 [], cO k5 10 [], cO k6 8 [], cI aC tpa 8 tyf, cI aC tpe 8 teg0, cI aC tpb 8 tbf, cI aC tpu 7 tuf, cI aC tpw 7 tvf, cI aC tpq 128 tqf, cI aC tpt 128 ttf, cI aC xo 8 orf, cI aC xr 7 u_37]) hP hD [32, 31, 0, 1, 2, 3, 4, 5, 6, 7, 8, 9, 10, 11, 12, 13, 14, 15, 16, 17, 18, 19, 20, 21, 22, 23, 24, 25, 26, 27, 28, 29, 30, 33] (by decide) rfl
      have hP9 := hpd9.1
      have hD9 := hpd9.2
      refine W.widen (k := 0) (n := 0) (by omega) (by omega) ?_
      exact W.iret (v := x_36) hx hb hr (fun t ht hW => ⟨⟨x_36, (tsz, tsy, tdn, tkf, tff, twf, tpf, tsf, tun, tfw, tuf, tvf, tqf, ttf, tbf, tyf, teg0, g, orf, u_37), rfl, ⟨fun a _ => rfl, by rw [hv9]; unfold rSds; rw [if_pos (has_y hz_5 c_2), if_pos (Int32.not_le.mp c_3)]⟩, by rw [ht]; exact hP9, va_K.moved hW.alike hK, hD9⟩, hS.F ht⟩) hS.2.2 dX11_seeds_28
  · refine lv_aload_n hx hb dX11_seeds_11 rfl (lv_at hl 0 rfl) ?_
    refine lv_iconst (v := -1) hx hb dX11_seeds_12 (by decide) ?_
    have hpd9 := pdf_N (cx := [oX11 h0 xp xtp xn xt xk xl xc xo xto xr xch ts ik st, cI aC xr 7 rf]) hP hD hS hA [0, 32] (by decide) rfl
    have hPc := hpd9.1
    have hDc := hpd9.2.1
    have hFc := hpd9.2.2
    clear hpd9
    refine va_calli (va_runV (As := [Value.int (-1)]) (rest := []) ⟨hx, hb, hml, hown, hts⟩ (c_X11_refuse l dC dI aC H.size h0 xp xtp xn xt xk xl xc xo xto xr xch ts ik st (-1) 1 rf (by decide) (by decide) (by decide) (by unfold vp_in; decide)) ⟨(callB_of 1 hts (gG kw_276) rfl rfl rfl (hts _ (gw kw_1 rfl)) (hts _ (gw kw_273 rfl)) hd_X11_refuse ⟨Nat.le_of_ble_eq_true rfl, Nat.le_of_ble_eq_true rfl⟩), (hts _ (gw kw_275 rfl)), (hts _ (gw ks_0 rfl))⟩ ⟨fb_std, va_recv (q := (RX11, TX11, 14)) hK hPc (ci := 11) (q0 := 0) rfl rfl, pre_std hPc hK hDc hN⟩ rfl rfl hl.1 rfl (lv_room (Nat.le_of_ble_eq_true rfl)) dX11_seeds_13 ⟨Nat.le_of_ble_eq_true rfl, Nat.le_of_ble_eq_true rfl⟩) hS (fun q _ h => hFc q h) hFc (fun x_38 u9 t9 H1 locs ht hvm hw_38 hB hz1 hk1 hS => ?_)
    obtain ⟨u_39, rfl⟩ : ∃ z, z = u9 := ⟨_, rfl⟩
    obtain ⟨hP1, hK1, hD1⟩ := hB
    rw [ht] at hP1
    clear hK1
    try dsimp only at hw_38
    have hpd9 : PDx (dC, dI) classes A H1 (wp [cI aC ek 8 kf, cI aC ef 8 ff, cI aC ew 8 wf, cI aC ep 8 pf, cI aC es 5 stf, oX4 xt tek tef tew tep tes tsz tsy tdn, cI aC tek 8 tkf, cI aC tef 8 tff, cI aC tew 8 twf, cI aC tep 8 tpf, cI aC tes 5 tsf, oX9 xtp tpo tpp tps tpa tpe tpb xt pk tpu tpw tpq tpt tun tfw, cA aC tpo 8 tfo, cA aC tpp 8 tfp, cA aC tps 8 tfs, cK aC pk 7 fk, cO k0 0 [], cO k1 1 [], cO k2 3 [], cO k3 5 [], cO k4 6 [], cO k5 10 [], cO k6 8 [], cI aC tpa 8 tyf, cI aC tpe 8 teg0, cI aC tpb 8 tbf, cI aC tpu 7 tuf, cI aC tpw 7 tvf, cI aC tpq 128 tqf, cI aC tpt 128 ttf, cI aC xo 8 orf, oX4 xn ek ef ew ep es (nI n) (nI sn) dn, oX11 h0 xp xtp xn xt xk xl xc xo xto xr xch ts ik st, cI aC xr 7 u_39] (va_pl L (plE aC g))) := jn_Q (wr := [cI aC ek 8 kf, cI aC ef 8 ff, cI aC ew 8 wf, cI aC ep 8 pf, cI aC es 5 stf, oX4 xt tek tef tew tep tes tsz tsy tdn, cI aC tek 8 tkf, cI aC tef 8 tff, cI aC tew 8 twf, cI aC tep 8 tpf, cI aC tes 5 tsf, oX9 xtp tpo tpp tps tpa tpe tpb xt pk tpu tpw tpq tpt tun tfw, cA aC tpo 8 tfo, cA aC tpp 8 tfp, cA aC tps 8 tfs, cK aC pk 7 fk, cO k0 0 [], cO k1 1 [], cO k2 3 [], cO k3 5 [], cO k4 6 [], cO k5 10 [], cO k6 8 [], cI aC tpa 8 tyf, cI aC tpe 8 teg0, cI aC tpb 8 tbf, cI aC tpu 7 tuf, cI aC tpw 7 tvf, cI aC tpq 128 tqf, cI aC tpt 128 ttf, cI aC xo 8 orf, oX4 xn ek ef ew ep es (nI n) (nI sn) dn]) hFc hk1 hP1 hD1 hP hD [0, 32] [1, 2, 3, 4, 5, 6, 7, 8, 9, 10, 11, 12, 13, 14, 15, 16, 17, 18, 19, 20, 21, 22, 23, 24, 25, 26, 27, 28, 29, 30, 31, 33] rfl rfl (by decide) (by decide)
    have hP := hpd9.1
    have hD := hpd9.2
    clear hpd9
    generalize H1 = H at hP hS ⊢
    clear hPc hDc hFc hz1 hk1 hP1 hD1 ht hvm
    obtain ⟨hv9, -⟩ := hw_38
    have hpd9 := pd_P (cx := [oX11 h0 xp xtp xn xt xk xl xc xo xto xr xch ts ik st, oX4 xn ek ef ew ep es (nI n) (nI sn) dn, cI aC ek 8 kf, cI aC ef 8 ff, cI aC ew 8 wf, cI aC ep 8 pf, cI aC es 5 stf, oX4 xt tek tef tew tep tes tsz tsy tdn, cI aC tek 8 tkf, cI aC tef 8 tff, cI aC tew 8 twf, cI aC tep 8 tpf, cI aC tes 5 tsf, oX9 xtp tpo tpp tps tpa tpe tpb xt pk tpu tpw tpq tpt tun tfw, cA aC tpo 8 tfo, cA aC tpp 8 tfp, cA aC tps 8 tfs, cK aC pk 7 fk, cO k0 0 [], cO k1 1 [], cO k2 3 [], cO k3 5 [], cO k4 6 [], cO k5 10 [], cO k6 8 [], cI aC tpa 8 tyf, cI aC tpe 8 teg0, cI aC tpb 8 tbf, cI aC tpu 7 tuf, cI aC tpw 7 tvf, cI aC tpq 128 tqf, cI aC tpt 128 ttf, cI aC xo 8 orf, cI aC xr 7 u_39]) hP hD [32, 31, 0, 1, 2, 3, 4, 5, 6, 7, 8, 9, 10, 11, 12, 13, 14, 15, 16, 17, 18, 19, 20, 21, 22, 23, 24, 25, 26, 27, 28, 29, 30, 33] (by decide) rfl
    have hP9 := hpd9.1
    have hD9 := hpd9.2
    refine W.widen (k := 0) (n := 0) (by omega) (by omega) ?_
    exact W.iret (v := x_38) hx hb hr (fun t ht hW => ⟨⟨x_38, (tsz, tsy, tdn, tkf, tff, twf, tpf, tsf, tun, tfw, tuf, tvf, tqf, ttf, tbf, tyf, teg0, g, orf, u_39), rfl, ⟨fun a _ => rfl, by rw [hv9]; unfold rSds; rw [if_neg (has_n hz_5 c_2)]⟩, by rw [ht]; exact hP9, va_K.moved hW.alike hK, hD9⟩, hS.F ht⟩) hS.2.2 dX11_seeds_16

end

