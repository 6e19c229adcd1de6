theorem lc_ne {x y : Int64} (h : ¬ lg_cmp x y = 0) : ¬ x = y := fun e => h (by
  subst e
  unfold lg_cmp
  rw [if_neg (fun q => Int64.lt_irrefl q), if_pos rfl])
theorem lc_gt {x : Int64} (h : 0 < lg_cmp x 0) : ¬ x = 0 := fun e => by
  subst e
  exact absurd h (by decide)
theorem w_ix {x : Int32} {w : Nat} (hw : w ≤ 9) (hx : x = nI w) : vp_in x 73 := by rw [hx]; exact vp_in_nI (by omega) (by omega)

set_option maxHeartbeats 1000000 in
set_option maxRecDepth 100000 in
/-- J7_fill_d0a16 -/
theorem c_J7_fill_d0a16 (l : Launch) (dC : Nat → ClassId) (dI : Nat → Nat → Nat) (aC : Nat → ClassId) (sz : Nat) (oa : Nat) (nA : Nat) (f : Nat → Int64) (v : Int64) (hn : nA < 2 ^ 31) : Met l yJ7_fill_d0a16 (wW yJ7_fill_d0a16 cJ7_fill_d0a16 5 (none : Option FieldType)) ({ frames := 0, cells := 0, slots := 0, locals := 0 } : Room) (va_Pc [Value.ref oa, Value.long v] (fun U => U.heap.size = sz ∧ va_P (dC, dI) classes [cL aC oa nA f] U.heap ∧ va_K (dC, dI) classes (TY aC) U ∧ va_D (fun _ => True) [cL aC oa nA f] ∧ NX U)) (va_Qv (fun (f2 : Nat → Int64) => True) (fun (f2 : Nat → Int64) (t : State) => va_P (dC, dI) classes [cL aC oa nA f2] t.heap ∧ va_K (dC, dI) classes (TY aC) t ∧ va_D (va_A [cL aC oa nA f] sz) [cL aC oa nA f2]) (va_A [cL aC oa nA f] sz)) 0 0 (va_A [cL aC oa nA f] sz) := by
  refine Met.ofW (cc := cJ7_fill_d0a16) (maxL := 5) (ret := (none : Option FieldType)) (by decide) rfl ?_
  intro p e s m args below meth c s₁ B hml hv
  obtain ⟨rfl, hsz, hP, hK, hD0, hN⟩ := hv
  have hx := B.exec
  have hb := B.bytes
  have hr := B.returns
  have hts0 := atoms_spec (ws := (wW yJ7_fill_d0a16 cJ7_fill_d0a16 5 (none : Option FieldType))) B.pre
  have hts : ∀ w9 ∈ lw_G, w9.before ([Value.ref oa, Value.long v] : List Value).toArray s = true := fun w9 h9 => hts0 w9 (List.mem_cons_of_mem _ h9)
  have hown : s.vm.findClass RJ7 = some m.cls := findClass_of_methodNamed B.named
  have hlocks := B.notSynchronized
  subst hsz
  have hD := hD0.self (sz := s.heap.size)
  generalize hAe : va_A [cL aC oa nA f] s.heap.size = A at hD ⊢
  have hA : ∀ q : Nat, s.heap.size ≤ q → A q := fun q h => by rw [← hAe]; exact Or.inr h
  obtain ⟨H, hHe⟩ : ∃ H : Heap, H = s.heap := ⟨_, rfl⟩
  have hS : va_S A s.heap H [] := by rw [hHe]; exact va_S.rf
  have hP : va_P (dC, dI) classes [cL aC oa nA f] H := by rw [hHe]; exact hP
  have hl := lv_entry ([Value.ref oa, Value.long v]) (n := 5) (Nat.le_of_ble_eq_true rfl)
  rw [lg_entry_eq]
  generalize (lg_sl ([Value.ref oa, Value.long v]) ++ List.replicate (5 - (lg_sl ([Value.ref oa, Value.long v])).length) Slot.unset).toArray = ls at hl ⊢
  have hl : lv_has ls 5 [(0, Value.ref oa), (1, Value.long v)] := hl
  rw [← hHe]
  refine lv_iconst (v := 0) hx hb dJ7_fill_d0a16_0 (by decide) ?_
  refine lv_istore_n (lv' := [(3, Value.int 0), (0, Value.ref oa), (1, Value.long v)]) hx hb dJ7_fill_d0a16_1 rfl hl (by decide) rfl (fun ls hl => ?_)
  refine lv_aload_n hx hb dJ7_fill_d0a16_2 rfl (lv_at hl 1 rfl) ?_
  refine va_alen (v := Int32.ofNat nA) hx hb hK hP 0 2 rfl rfl rfl dJ7_fill_d0a16_3 ?_
  refine lv_topi (fun x_1 e_1 => ?_)
  have h9 : x_1 = nI nA := e_1
  subst h9
  refine lv_istore (lv' := [(4, Value.int (nI nA)), (3, Value.int 0), (0, Value.ref oa), (1, Value.long v)]) hx hb dJ7_fill_d0a16_4 hl (by decide) rfl (fun ls hl => ?_)
  have lp_6 : ∀ (fu : Nat) (k : Nat) (fc : Nat → Int64) (hfu : nA - k < fu) (hk : k ≤ nA) (H : Heap) (locs : List Loc) (ls : Array Slot), va_P (dC, dI) classes [cL aC oa nA fc] H → va_D A [cL aC oa nA fc] → va_S A s.heap H locs → lv_has ls 5 [(0, Value.ref oa), (1, Value.long v), (3, Value.int (nI k)), (4, Value.int (nI nA))] → W p l e (headSpec (wW yJ7_fill_d0a16 cJ7_fill_d0a16 5 (none : Option FieldType)) ({ frames := 0, cells := 0, slots := 0, locals := 0 } : Room)).room s m ([Value.ref oa, Value.long v] : List Value).toArray below meth c H locs 0 0 (MQ below (va_Qv (fun (f2 : Nat → Int64) => True) (fun (f2 : Nat → Int64) (t : State) => va_P (dC, dI) classes [cL aC oa nA f2] t.heap ∧ va_K (dC, dI) classes (TY aC) t ∧ va_D A [cL aC oa nA f2]) A) ([Value.ref oa, Value.long v] : List Value).toArray s 0 0 A) (F0 m 6 ls []) := by
    intro fu
    induction fu with
    | zero => intro k fc hfu; exact absurd hfu (Nat.not_lt_zero _)
    | succ fu ih_6 =>
      intro k fc hfu hk H locs ls hP hD hS hl
      refine lv_iload_n hx hb dJ7_fill_d0a16_6 rfl (lv_at hl 2 rfl) ?_
      refine lv_iload hx hb dJ7_fill_d0a16_7 (lv_at hl 3 rfl) ?_
      refine lv_icmp_ge (tgt := 22) hx hb dJ7_fill_d0a16_9 (by decide) (fun c_2 => ?_) (fun c_2 => ?_)
      · have hP9 := hP.sub (ws' := [cL aC oa nA fc]) [0] rfl
        have hD9 := hD.sub (ws' := [cL aC oa nA fc]) [0] (by decide) rfl
        refine W.widen (k := 0) (n := 0) (by omega) (by omega) ?_
        exact W.vret hx hb hr (fun t ht hW => ⟨⟨(fc), rfl, trivial, by rw [ht]; exact hP9, va_K.moved hW.alike hK, hD9⟩, hS.F ht⟩) hS.2.2 dJ7_fill_d0a16_22
      · have hlt : k < nA := by
          rcases Nat.lt_or_ge k nA with q | q
          · exact q
          · exact absurd (nI_le q (by omega)) c_2
        refine lv_aload_n hx hb dJ7_fill_d0a16_12 rfl (lv_at hl 0 rfl) ?_
        refine lv_iload_n hx hb dJ7_fill_d0a16_13 rfl (lv_at hl 2 rfl) ?_
        refine lv_lload_n hx hb dJ7_fill_d0a16_14 rfl (lv_at hl 1 rfl) ?_
        have h_3 : vp_in (nI k) nA := vp_in_nI (by omega) (by omega)
        refine va_last hx hb hK hP hD hS 0 2 rfl rfl h_3 dJ7_fill_d0a16_15 (fun H locs hP hD hS => ?_)
        obtain ⟨f_4, e_f_4⟩ : ∃ y : Nat → Int64, y = vp_updL fc (nI k : Int32).toNatClampNeg v := ⟨_, rfl⟩
        have hP : va_P (dC, dI) classes [cL aC oa nA f_4] H := by rw [e_f_4]; exact hP
        have hD : va_D A [cL aC oa nA f_4] := by rw [e_f_4]; exact hD
        obtain ⟨x_5, e_5⟩ : ∃ y : Int32, y = (nI k) + 1 := ⟨_, rfl⟩
        refine lv_iinc (v := x_5) (lv' := [(3, Value.int x_5), (0, Value.ref oa), (1, Value.long v), (4, Value.int (nI nA))]) hx hb dJ7_fill_d0a16_16 hl (k := 2) rfl (by rw [e_5]; rfl) (by decide) rfl (fun ls hl => ?_)
        have h9 : x_5 = nI (k + 1) := by rw [e_5, nI_1]
        subst h9
        refine lv_goto (tgt := 6) hx hb dJ7_fill_d0a16_19 (by decide) ?_
        exact ih_6 (k + 1) f_4 (by omega) (by omega) _ _ _ (hP.sub [0] rfl) (hD.sub [0] (by decide) rfl) hS (lv_sub hl [1, 2, 0, 3] rfl)
  exact lp_6 ((nA - 0) + 1) 0 f (Nat.lt_succ_self _) (by omega) _ _ _ (hP.sub [0] rfl) (hD.sub [0] (by decide) rfl) hS (lv_sub hl [2, 3, 1, 0] rfl)

set_option maxHeartbeats 1000000 in
set_option maxRecDepth 100000 in
/-- X11_addVoter -/
theorem c_X11_addVoter (l : Launch) (dC : Nat → ClassId) (dI : Nat → Nat → Nat) (aC : Nat → ClassId) (sz : Nat) (h0 : Nat) (xp : Nat) (xtp : Nat) (xn : Nat) (xt : Nat) (xk : Nat) (xl : Nat) (xc : Nat) (xo : Nat) (xto : Nat) (xr : Nat) (xch : Nat) (ts : Int32) (ik : Int32) (st : Int32) (chf : Nat → Int64) (w0 : Nat) (ye : Int32) (hw0 : w0 ≤ 9) : Met l yX11_addVoter (wW yX11_addVoter cX11_addVoter 6 (none : Option FieldType)) ({ frames := 0, cells := 0, slots := 0, locals := 0 } : Room) (va_Pc [Value.ref h0, Value.int (nI w0), Value.int ye] (fun U => U.heap.size = sz ∧ va_P (dC, dI) classes [cO h0 11 [Value.ref xp, Value.ref xtp, Value.ref xn, Value.ref xt, Value.ref xk, Value.ref xl, Value.ref xc, Value.ref xo, Value.ref xto, Value.ref xr, Value.ref xch, Value.int ts, Value.int ik, Value.int st], cL aC xch 73 chf] U.heap ∧ va_K (dC, dI) classes (TY aC) U ∧ va_D (fun _ => True) [cO h0 11 [Value.ref xp, Value.ref xtp, Value.ref xn, Value.ref xt, Value.ref xk, Value.ref xl, Value.ref xc, Value.ref xo, Value.ref xto, Value.ref xr, Value.ref xch, Value.int ts, Value.int ik, Value.int st], cL aC xch 73 chf] ∧ NX U)) (va_Qv (fun (chg : Nat → Int64) => True) (fun (chg : Nat → Int64) (t : State) => va_P (dC, dI) classes [cO h0 11 [Value.ref xp, Value.ref xtp, Value.ref xn, Value.ref xt, Value.ref xk, Value.ref xl, Value.ref xc, Value.ref xo, Value.ref xto, Value.ref xr, Value.ref xch, Value.int ts, Value.int ik, Value.int st], cL aC xch 73 chg] t.heap ∧ va_K (dC, dI) classes (TY aC) t ∧ va_D (va_A [cO h0 11 [Value.ref xp, Value.ref xtp, Value.ref xn, Value.ref xt, Value.ref xk, Value.ref xl, Value.ref xc, Value.ref xo, Value.ref xto, Value.ref xr, Value.ref xch, Value.int ts, Value.int ik, Value.int st], cL aC xch 73 chf] sz) [cO h0 11 [Value.ref xp, Value.ref xtp, Value.ref xn, Value.ref xt, Value.ref xk, Value.ref xl, Value.ref xc, Value.ref xo, Value.ref xto, Value.ref xr, Value.ref xch, Value.int ts, Value.int ik, Value.int st], cL aC xch 73 chg]) (va_A [cO h0 11 [Value.ref xp, Value.ref xtp, Value.ref xn, Value.ref xt, Value.ref xk, Value.ref xl, Value.ref xc, Value.ref xo, Value.ref xto, Value.ref xr, Value.ref xch, Value.int ts, Value.int ik, Value.int st], cL aC xch 73 chf] sz)) 0 0 (va_A [cO h0 11 [Value.ref xp, Value.ref xtp, Value.ref xn, Value.ref xt, Value.ref xk, Value.ref xl, Value.ref xc, Value.ref xo, Value.ref xto, Value.ref xr, Value.ref xch, Value.int ts, Value.int ik, Value.int st], cL aC xch 73 chf] sz) := by
  refine Met.ofW (cc := cX11_addVoter) (maxL := 6) (ret := (none : Option FieldType)) (by decide) rfl ?_
  intro p e s m args below meth c s₁ B hml hv
  obtain ⟨rfl, hsz, hP, hK, hD0, hN⟩ := hv
  have hx := B.exec
  have hb := B.bytes
  have hr := B.returns
  have hts0 := atoms_spec (ws := (wW yX11_addVoter cX11_addVoter 6 (none : Option FieldType))) B.pre
  have hts : ∀ w9 ∈ lw_G, w9.before ([Value.ref h0, Value.int (nI w0), Value.int ye] : List Value).toArray s = true := fun w9 h9 => hts0 w9 (List.mem_cons_of_mem _ h9)
  have hown : s.vm.findClass RX11 = some m.cls := findClass_of_methodNamed B.named
  have hlocks := B.notSynchronized
  subst hsz
  have hD := hD0.self (sz := s.heap.size)
  generalize hAe : va_A [cO h0 11 [Value.ref xp, Value.ref xtp, Value.ref xn, Value.ref xt, Value.ref xk, Value.ref xl, Value.ref xc, Value.ref xo, Value.ref xto, Value.ref xr, Value.ref xch, Value.int ts, Value.int ik, Value.int st], cL aC xch 73 chf] s.heap.size = A at hD ⊢
  have hA : ∀ q : Nat, s.heap.size ≤ q → A q := fun q h => by rw [← hAe]; exact Or.inr h
  obtain ⟨H, hHe⟩ : ∃ H : Heap, H = s.heap := ⟨_, rfl⟩
  have hS : va_S A s.heap H [] := by rw [hHe]; exact va_S.rf
  have hP : va_P (dC, dI) classes [cO h0 11 [Value.ref xp, Value.ref xtp, Value.ref xn, Value.ref xt, Value.ref xk, Value.ref xl, Value.ref xc, Value.ref xo, Value.ref xto, Value.ref xr, Value.ref xch, Value.int ts, Value.int ik, Value.int st], cL aC xch 73 chf] H := by rw [hHe]; exact hP
  have hl := lv_entry ([Value.ref h0, Value.int (nI w0), Value.int ye]) (n := 6) (Nat.le_of_ble_eq_true rfl)
  rw [lg_entry_eq]
  generalize (lg_sl ([Value.ref h0, Value.int (nI w0), Value.int ye]) ++ List.replicate (6 - (lg_sl ([Value.ref h0, Value.int (nI w0), Value.int ye])).length) Slot.unset).toArray = ls at hl ⊢
  have hl : lv_has ls 6 [(0, Value.ref h0), (1, Value.int (nI w0)), (2, Value.int ye)] := hl
  rw [← hHe]
  refine lv_aload_n hx hb dX11_addVoter_0 rfl (lv_at hl 0 rfl) ?_
  refine va_get (D := (dC, dI)) (ci := 11) (v := Value.ref xch) (C := RX11) (T := TX11) (N := 14) hx hb hts inX11 hown hK hP 0 rfl rfl 10 (by decide) (hts _ (gw kw_236 rfl)) (fun _ h9 => h9) rfl dX11_addVoter_1 ?_
  refine va_alen (v := 73) hx hb hK hP 1 2 rfl rfl rfl dX11_addVoter_4 ?_
  refine lv_iconst (v := 1) hx hb dX11_addVoter_5 (by decide) ?_
  refine lv_isub hx hb dX11_addVoter_6 ?_
  refine lv_topi (fun x_1 e_1 => ?_)
  refine lv_istore_n (lv' := [(3, Value.int x_1), (0, Value.ref h0), (1, Value.int (nI w0)), (2, Value.int ye)]) hx hb dX11_addVoter_7 rfl hl (by decide) rfl (fun ls hl => ?_)
  have lp_8 : ∀ (fu : Nat) (kk : Nat) (x3 : Int32) (cc : Nat → Int64) (hfu : kk < fu) (hk : kk ≤ 73) (hx3 : x3 = iI ((kk : Int) - 1)) (H : Heap) (locs : List Loc) (ls : Array Slot), va_P (dC, dI) classes [cO h0 11 [Value.ref xp, Value.ref xtp, Value.ref xn, Value.ref xt, Value.ref xk, Value.ref xl, Value.ref xc, Value.ref xo, Value.ref xto, Value.ref xr, Value.ref xch, Value.int ts, Value.int ik, Value.int st], cL aC xch 73 cc] H → va_D A [cO h0 11 [Value.ref xp, Value.ref xtp, Value.ref xn, Value.ref xt, Value.ref xk, Value.ref xl, Value.ref xc, Value.ref xo, Value.ref xto, Value.ref xr, Value.ref xch, Value.int ts, Value.int ik, Value.int st], cL aC xch 73 cc] → va_S A s.heap H locs → lv_has ls 6 [(0, Value.ref h0), (1, Value.int (nI w0)), (2, Value.int ye), (3, Value.int x3)] → W p l e (headSpec (wW yX11_addVoter cX11_addVoter 6 (none : Option FieldType)) ({ frames := 0, cells := 0, slots := 0, locals := 0 } : Room)).room s m ([Value.ref h0, Value.int (nI w0), Value.int ye] : List Value).toArray below meth c H locs 0 0 (MQ below (va_Qv (fun (chg : Nat → Int64) => True) (fun (chg : Nat → Int64) (t : State) => va_P (dC, dI) classes [cO h0 11 [Value.ref xp, Value.ref xtp, Value.ref xn, Value.ref xt, Value.ref xk, Value.ref xl, Value.ref xc, Value.ref xo, Value.ref xto, Value.ref xr, Value.ref xch, Value.int ts, Value.int ik, Value.int st], cL aC xch 73 chg] t.heap ∧ va_K (dC, dI) classes (TY aC) t ∧ va_D A [cO h0 11 [Value.ref xp, Value.ref xtp, Value.ref xn, Value.ref xt, Value.ref xk, Value.ref xl, Value.ref xc, Value.ref xo, Value.ref xto, Value.ref xr, Value.ref xch, Value.int ts, Value.int ik, Value.int st], cL aC xch 73 chg]) A) ([Value.ref h0, Value.int (nI w0), Value.int ye] : List Value).toArray s 0 0 A) (F0 m 8 ls []) := by
    intro fu
    induction fu with
    | zero => intro kk x3 cc hfu; exact absurd hfu (Nat.not_lt_zero _)
    | succ fu ih_8 =>
      intro kk x3 cc hfu hk hx3 H locs ls hP hD hS hl
      refine lv_iload_n hx hb dX11_addVoter_8 rfl (lv_at hl 3 rfl) ?_
      refine lv_if_lt (tgt := 61) hx hb dX11_addVoter_9 (by decide) (fun c_2 => ?_) (fun c_2 => ?_)
      · have hP9 := hP.sub (ws' := [cO h0 11 [Value.ref xp, Value.ref xtp, Value.ref xn, Value.ref xt, Value.ref xk, Value.ref xl, Value.ref xc, Value.ref xo, Value.ref xto, Value.ref xr, Value.ref xch, Value.int ts, Value.int ik, Value.int st], cL aC xch 73 cc]) [0, 1] rfl
        have hD9 := hD.sub (ws' := [cO h0 11 [Value.ref xp, Value.ref xtp, Value.ref xn, Value.ref xt, Value.ref xk, Value.ref xl, Value.ref xc, Value.ref xo, Value.ref xto, Value.ref xr, Value.ref xch, Value.int ts, Value.int ik, Value.int st], cL aC xch 73 cc]) [0, 1] (by decide) rfl
        refine W.widen (k := 0) (n := 0) (by omega) (by omega) ?_
        exact W.vret hx hb hr (fun t ht hW => ⟨⟨(cc), rfl, trivial, by rw [ht]; exact hP9, va_K.moved hW.alike hK, hD9⟩, hS.F ht⟩) hS.2.2 dX11_addVoter_61
      · have hk1 : 1 ≤ kk := by
          rcases Nat.eq_zero_or_pos kk with q | q
          · subst q; exact absurd (by rw [hx3]; decide) c_2
          · exact q
        obtain ⟨k, hkk⟩ : ∃ k, kk = k + 1 := ⟨kk - 1, by omega⟩
        subst hkk
        have h9 : x3 = nI k := by rw [hx3, nI_iI]; congr 1; omega
        subst h9
        refine lv_iload_n hx hb dX11_addVoter_12 rfl (lv_at hl 3 rfl) ?_
        refine lv_iload_n hx hb dX11_addVoter_13 rfl (lv_at hl 1 rfl) ?_
        refine lv_icmp_lt (tgt := 28) hx hb dX11_addVoter_14 (by decide) (fun c_3 => ?_) (fun c_3 => ?_)
        · refine lv_lconst (v := 0) hx hb dX11_addVoter_28 (by decide) ?_
          refine lv_lstore (lv' := [(4, Value.long 0), (0, Value.ref h0), (1, Value.int (nI w0)), (2, Value.int ye), (3, Value.int (nI k))]) hx hb dX11_addVoter_29 hl (by decide) rfl (fun ls hl => ?_)
          refine lv_aload_n hx hb dX11_addVoter_31 rfl (lv_at hl 1 rfl) ?_
          refine va_get (D := (dC, dI)) (ci := 11) (v := Value.ref xch) (C := RX11) (T := TX11) (N := 14) hx hb hts inX11 hown hK hP 0 rfl rfl 10 (by decide) (hts _ (gw kw_236 rfl)) (fun _ h9 => h9) rfl dX11_addVoter_32 ?_
          refine lv_iload_n hx hb dX11_addVoter_35 rfl (lv_at hl 4 rfl) ?_
          refine lv_aload_n hx hb dX11_addVoter_36 rfl (lv_at hl 1 rfl) ?_
          refine va_get (D := (dC, dI)) (ci := 11) (v := Value.ref xch) (C := RX11) (T := TX11) (N := 14) hx hb hts inX11 hown hK hP 0 rfl rfl 10 (by decide) (hts _ (gw kw_236 rfl)) (fun _ h9 => h9) rfl dX11_addVoter_37 ?_
          refine lv_iload_n hx hb dX11_addVoter_40 rfl (lv_at hl 4 rfl) ?_
          have h_4 : vp_in (nI k) 73 := vp_in_nI (by omega) (by omega)
          refine va_lald hx hb hK hP 1 2 rfl rfl h_4 dX11_addVoter_41 ?_
          refine lv_topl (fun x_5 e_5 => ?_)
          refine lv_bipush (v := 100) hx hb dX11_addVoter_42 (by decide) ?_
          refine lv_iload_n hx hb dX11_addVoter_44 rfl (lv_at hl 3 rfl) ?_
          refine lv_isub hx hb dX11_addVoter_45 ?_
          refine lv_topi (fun x_6 e_6 => ?_)
          refine lv_i2l hx hb dX11_addVoter_46 rfl ?_
          refine lv_topl (fun x_7 e_7 => ?_)
          refine lv_lmul hx hb dX11_addVoter_47 ?_
          refine lv_topl (fun x_8 e_8 => ?_)
          refine lv_lload hx hb dX11_addVoter_48 (lv_at hl 0 rfl) ?_
          refine lv_iload_n hx hb dX11_addVoter_50 rfl (lv_at hl 3 rfl) ?_
          refine lv_i2l hx hb dX11_addVoter_51 rfl ?_
          refine lv_topl (fun x_9 e_9 => ?_)
          refine lv_lmul hx hb dX11_addVoter_52 ?_
          refine lv_topl (fun x_10 e_10 => ?_)
          refine lv_ladd hx hb dX11_addVoter_53 ?_
          refine lv_topl (fun x_11 e_11 => ?_)
          have h_12 : vp_in (nI k) 73 := vp_in_nI (by omega) (by omega)
          refine va_last hx hb hK hP hD hS 1 2 rfl rfl h_12 dX11_addVoter_54 (fun H locs hP hD hS => ?_)
          obtain ⟨f_13, e_f_13⟩ : ∃ y : Nat → Int64, y = vp_updL cc (nI k : Int32).toNatClampNeg x_11 := ⟨_, rfl⟩
          have hP : va_P (dC, dI) classes [cO h0 11 [Value.ref xp, Value.ref xtp, Value.ref xn, Value.ref xt, Value.ref xk, Value.ref xl, Value.ref xc, Value.ref xo, Value.ref xto, Value.ref xr, Value.ref xch, Value.int ts, Value.int ik, Value.int st], cL aC xch 73 f_13] H := by rw [e_f_13]; exact hP
          have hD : va_D A [cO h0 11 [Value.ref xp, Value.ref xtp, Value.ref xn, Value.ref xt, Value.ref xk, Value.ref xl, Value.ref xc, Value.ref xo, Value.ref xto, Value.ref xr, Value.ref xch, Value.int ts, Value.int ik, Value.int st], cL aC xch 73 f_13] := by rw [e_f_13]; exact hD
          obtain ⟨x_14, e_14⟩ : ∃ y : Int32, y = (nI k) + (-1) := ⟨_, rfl⟩
          refine lv_iinc (v := x_14) (lv' := [(3, Value.int x_14), (4, Value.long 0), (0, Value.ref h0), (1, Value.int (nI w0)), (2, Value.int ye)]) hx hb dX11_addVoter_55 hl (k := 4) rfl (by rw [e_14]; rfl) (by decide) rfl (fun ls hl => ?_)
          refine lv_goto (tgt := 8) hx hb dX11_addVoter_58 (by decide) ?_
          exact ih_8 k x_14 f_13 (by omega) (by omega) (by rw [e_14, nI_iI, show (-1 : Int32) = iI (-1) from rfl, iI_add]; rfl) _ _ _ (hP.sub [0, 1] rfl) (hD.sub [0, 1] (by decide) rfl) hS (lv_sub hl [2, 3, 4, 0] rfl)
        · refine lv_aload_n hx hb dX11_addVoter_17 rfl (lv_at hl 0 rfl) ?_
          refine va_get (D := (dC, dI)) (ci := 11) (v := Value.ref xch) (C := RX11) (T := TX11) (N := 14) hx hb hts inX11 hown hK hP 0 rfl rfl 10 (by decide) (hts _ (gw kw_236 rfl)) (fun _ h9 => h9) rfl dX11_addVoter_18 ?_
          refine lv_iload_n hx hb dX11_addVoter_21 rfl (lv_at hl 3 rfl) ?_
          refine lv_iload_n hx hb dX11_addVoter_22 rfl (lv_at hl 1 rfl) ?_
          refine lv_isub hx hb dX11_addVoter_23 ?_
          refine lv_topi (fun x_15 e_15 => ?_)
          have h9 : x_15 = nI (k - w0) := by rw [e_15]; exact pk_sub (Nat.le_of_not_lt fun q => c_3 (nI_lt q (by omega)))
          subst h9
          have h_16 : vp_in (nI (k - w0)) 73 := vp_in_nI (by omega) (by omega)
          refine va_lald hx hb hK hP 1 2 rfl rfl h_16 dX11_addVoter_24 ?_
          refine lv_topl (fun x_17 e_17 => ?_)
          refine lv_goto (tgt := 29) hx hb dX11_addVoter_25 (by decide) ?_
          refine lv_lstore (lv' := [(4, Value.long x_17), (0, Value.ref h0), (1, Value.int (nI w0)), (2, Value.int ye), (3, Value.int (nI k))]) hx hb dX11_addVoter_29 hl (by decide) rfl (fun ls hl => ?_)
          refine lv_aload_n hx hb dX11_addVoter_31 rfl (lv_at hl 1 rfl) ?_
          refine va_get (D := (dC, dI)) (ci := 11) (v := Value.ref xch) (C := RX11) (T := TX11) (N := 14) hx hb hts inX11 hown hK hP 0 rfl rfl 10 (by decide) (hts _ (gw kw_236 rfl)) (fun _ h9 => h9) rfl dX11_addVoter_32 ?_
          refine lv_iload_n hx hb dX11_addVoter_35 rfl (lv_at hl 4 rfl) ?_
          refine lv_aload_n hx hb dX11_addVoter_36 rfl (lv_at hl 1 rfl) ?_
          refine va_get (D := (dC, dI)) (ci := 11) (v := Value.ref xch) (C := RX11) (T := TX11) (N := 14) hx hb hts inX11 hown hK hP 0 rfl rfl 10 (by decide) (hts _ (gw kw_236 rfl)) (fun _ h9 => h9) rfl dX11_addVoter_37 ?_
          refine lv_iload_n hx hb dX11_addVoter_40 rfl (lv_at hl 4 rfl) ?_
          have h_18 : vp_in (nI k) 73 := vp_in_nI (by omega) (by omega)
          refine va_lald hx hb hK hP 1 2 rfl rfl h_18 dX11_addVoter_41 ?_
          refine lv_topl (fun x_19 e_19 => ?_)
          refine lv_bipush (v := 100) hx hb dX11_addVoter_42 (by decide) ?_
          refine lv_iload_n hx hb dX11_addVoter_44 rfl (lv_at hl 3 rfl) ?_
          refine lv_isub hx hb dX11_addVoter_45 ?_
          refine lv_topi (fun x_20 e_20 => ?_)
          refine lv_i2l hx hb dX11_addVoter_46 rfl ?_
          refine lv_topl (fun x_21 e_21 => ?_)
          refine lv_lmul hx hb dX11_addVoter_47 ?_
          refine lv_topl (fun x_22 e_22 => ?_)
          refine lv_lload hx hb dX11_addVoter_48 (lv_at hl 0 rfl) ?_
          refine lv_iload_n hx hb dX11_addVoter_50 rfl (lv_at hl 3 rfl) ?_
          refine lv_i2l hx hb dX11_addVoter_51 rfl ?_
          refine lv_topl (fun x_23 e_23 => ?_)
          refine lv_lmul hx hb dX11_addVoter_52 ?_
          refine lv_topl (fun x_24 e_24 => ?_)
          refine lv_ladd hx hb dX11_addVoter_53 ?_
          refine lv_topl (fun x_25 e_25 => ?_)
          have h_26 : vp_in (nI k) 73 := vp_in_nI (by omega) (by omega)
          refine va_last hx hb hK hP hD hS 1 2 rfl rfl h_26 dX11_addVoter_54 (fun H locs hP hD hS => ?_)
          obtain ⟨f_27, e_f_27⟩ : ∃ y : Nat → Int64, y = vp_updL cc (nI k : Int32).toNatClampNeg x_25 := ⟨_, rfl⟩
          have hP : va_P (dC, dI) classes [cO h0 11 [Value.ref xp, Value.ref xtp, Value.ref xn, Value.ref xt, Value.ref xk, Value.ref xl, Value.ref xc, Value.ref xo, Value.ref xto, Value.ref xr, Value.ref xch, Value.int ts, Value.int ik, Value.int st], cL aC xch 73 f_27] H := by rw [e_f_27]; exact hP
          have hD : va_D A [cO h0 11 [Value.ref xp, Value.ref xtp, Value.ref xn, Value.ref xt, Value.ref xk, Value.ref xl, Value.ref xc, Value.ref xo, Value.ref xto, Value.ref xr, Value.ref xch, Value.int ts, Value.int ik, Value.int st], cL aC xch 73 f_27] := by rw [e_f_27]; exact hD
          obtain ⟨x_28, e_28⟩ : ∃ y : Int32, y = (nI k) + (-1) := ⟨_, rfl⟩
          refine lv_iinc (v := x_28) (lv' := [(3, Value.int x_28), (4, Value.long x_17), (0, Value.ref h0), (1, Value.int (nI w0)), (2, Value.int ye)]) hx hb dX11_addVoter_55 hl (k := 4) rfl (by rw [e_28]; rfl) (by decide) rfl (fun ls hl => ?_)
          refine lv_goto (tgt := 8) hx hb dX11_addVoter_58 (by decide) ?_
          exact ih_8 k x_28 f_27 (by omega) (by omega) (by rw [e_28, nI_iI, show (-1 : Int32) = iI (-1) from rfl, iI_add]; rfl) _ _ _ (hP.sub [0, 1] rfl) (hD.sub [0, 1] (by decide) rfl) hS (lv_sub hl [2, 3, 4, 0] rfl)
  exact lp_8 (73 + 1) 73 x_1 chf (Nat.lt_succ_self _) (by omega) (by rw [e_1]; decide) _ _ _ (hP.sub [0, 1] rfl) (hD.sub [0, 1] (by decide) rfl) hS (lv_sub hl [1, 2, 3, 0] rfl)

set_option maxHeartbeats 1000000 in
set_option maxRecDepth 100000 in
/-- X11_shakeVotes -/
theorem c_X11_shakeVotes (l : Launch) (dC : Nat → ClassId) (dI : Nat → Nat → Nat) (aC : Nat → ClassId) (sz : Nat) (h0 : Nat) (xp : Nat) (xtp : Nat) (xn : Nat) (xt : Nat) (xk : Nat) (xl : Nat) (xc : Nat) (xo : Nat) (xto : Nat) (xr : Nat) (xch : Nat) (ts : Int32) (ik : Int32) (st : Int32) (ek : Nat) (ef : Nat) (ew : Nat) (ep : Nat) (es : Nat) (n : Nat) (sn : Nat) (dn : Int32) (kf : Nat → Int32) (ff : Nat → Int32) (wf : Nat → Int32) (stf : Nat → Int32) (K : Nat → Nat) (F : Nat → Nat) (W0 : Nat → Nat) (S5 : Nat → Nat) (chf : Nat → Int64) (y0 : Int32) (hev : EVS n sn dn K F W0 S5 kf ff wf stf) (hsn : sn < n) : Met l yX11_shakeVotes (wW yX11_shakeVotes cX11_shakeVotes 7 (some .long)) ({ frames := 1, cells := 0, slots := 0, locals := 25 } : Room) (va_Pc [Value.ref h0, Value.int y0] (fun U => U.heap.size = sz ∧ va_P (dC, dI) classes [cO h0 11 [Value.ref xp, Value.ref xtp, Value.ref xn, Value.ref xt, Value.ref xk, Value.ref xl, Value.ref xc, Value.ref xo, Value.ref xto, Value.ref xr, Value.ref xch, Value.int ts, Value.int ik, Value.int st], cO xn 4 [Value.ref ek, Value.ref ef, Value.ref ew, Value.ref ep, Value.ref es, Value.int (nI n), Value.int (nI sn), Value.int dn], cI aC ew 8 wf, cI aC es 5 stf, cL aC xch 73 chf] U.heap ∧ va_K (dC, dI) classes (TY aC) U ∧ va_D (fun _ => True) [cO h0 11 [Value.ref xp, Value.ref xtp, Value.ref xn, Value.ref xt, Value.ref xk, Value.ref xl, Value.ref xc, Value.ref xo, Value.ref xto, Value.ref xr, Value.ref xch, Value.int ts, Value.int ik, Value.int st], cO xn 4 [Value.ref ek, Value.ref ef, Value.ref ew, Value.ref ep, Value.ref es, Value.int (nI n), Value.int (nI sn), Value.int dn], cI aC ew 8 wf, cI aC es 5 stf, cL aC xch 73 chf] ∧ NX U)) (va_Ql (fun (r : Int64) (chg : Nat → Int64) => True) (fun (chg : Nat → Int64) (t : State) => va_P (dC, dI) classes [cO h0 11 [Value.ref xp, Value.ref xtp, Value.ref xn, Value.ref xt, Value.ref xk, Value.ref xl, Value.ref xc, Value.ref xo, Value.ref xto, Value.ref xr, Value.ref xch, Value.int ts, Value.int ik, Value.int st], cO xn 4 [Value.ref ek, Value.ref ef, Value.ref ew, Value.ref ep, Value.ref es, Value.int (nI n), Value.int (nI sn), Value.int dn], cI aC ew 8 wf, cI aC es 5 stf, cL aC xch 73 chg] t.heap ∧ va_K (dC, dI) classes (TY aC) t ∧ va_D (va_A [cO h0 11 [Value.ref xp, Value.ref xtp, Value.ref xn, Value.ref xt, Value.ref xk, Value.ref xl, Value.ref xc, Value.ref xo, Value.ref xto, Value.ref xr, Value.ref xch, Value.int ts, Value.int ik, Value.int st], cO xn 4 [Value.ref ek, Value.ref ef, Value.ref ew, Value.ref ep, Value.ref es, Value.int (nI n), Value.int (nI sn), Value.int dn], cI aC ew 8 wf, cI aC es 5 stf, cL aC xch 73 chf] sz) [cO h0 11 [Value.ref xp, Value.ref xtp, Value.ref xn, Value.ref xt, Value.ref xk, Value.ref xl, Value.ref xc, Value.ref xo, Value.ref xto, Value.ref xr, Value.ref xch, Value.int ts, Value.int ik, Value.int st], cO xn 4 [Value.ref ek, Value.ref ef, Value.ref ew, Value.ref ep, Value.ref es, Value.int (nI n), Value.int (nI sn), Value.int dn], cI aC ew 8 wf, cI aC es 5 stf, cL aC xch 73 chg]) (va_A [cO h0 11 [Value.ref xp, Value.ref xtp, Value.ref xn, Value.ref xt, Value.ref xk, Value.ref xl, Value.ref xc, Value.ref xo, Value.ref xto, Value.ref xr, Value.ref xch, Value.int ts, Value.int ik, Value.int st], cO xn 4 [Value.ref ek, Value.ref ef, Value.ref ew, Value.ref ep, Value.ref es, Value.int (nI n), Value.int (nI sn), Value.int dn], cI aC ew 8 wf, cI aC es 5 stf, cL aC xch 73 chf] sz)) 0 0 (va_A [cO h0 11 [Value.ref xp, Value.ref xtp, Value.ref xn, Value.ref xt, Value.ref xk, Value.ref xl, Value.ref xc, Value.ref xo, Value.ref xto, Value.ref xr, Value.ref xch, Value.int ts, Value.int ik, Value.int st], cO xn 4 [Value.ref ek, Value.ref ef, Value.ref ew, Value.ref ep, Value.ref es, Value.int (nI n), Value.int (nI sn), Value.int dn], cI aC ew 8 wf, cI aC es 5 stf, cL aC xch 73 chf] sz) := by
  refine Met.ofW (cc := cX11_shakeVotes) (maxL := 7) (ret := (some .long)) (by decide) rfl ?_
  intro p e s m args below meth c s₁ B hml hv
  obtain ⟨rfl, hsz, hP, hK, hD0, hN⟩ := hv
  have hx := B.exec
  have hb := B.bytes
  have hr := B.returns
  have hts0 := atoms_spec (ws := (wW yX11_shakeVotes cX11_shakeVotes 7 (some .long))) B.pre
  have hts : ∀ w9 ∈ lw_G, w9.before ([Value.ref h0, Value.int y0] : List Value).toArray s = true := fun w9 h9 => hts0 w9 (List.mem_cons_of_mem _ h9)
  have hown : s.vm.findClass RX11 = some m.cls := findClass_of_methodNamed B.named
  have hlocks := B.notSynchronized
  subst hsz
  have hD := hD0.self (sz := s.heap.size)
  generalize hAe : va_A [cO h0 11 [Value.ref xp, Value.ref xtp, Value.ref xn, Value.ref xt, Value.ref xk, Value.ref xl, Value.ref xc, Value.ref xo, Value.ref xto, Value.ref xr, Value.ref xch, Value.int ts, Value.int ik, Value.int st], cO xn 4 [Value.ref ek, Value.ref ef, Value.ref ew, Value.ref ep, Value.ref es, Value.int (nI n), Value.int (nI sn), Value.int dn], cI aC ew 8 wf, cI aC es 5 stf, cL aC xch 73 chf] s.heap.size = A at hD ⊢
  have hA : ∀ q : Nat, s.heap.size ≤ q → A q := fun q h => by rw [← hAe]; exact Or.inr h
  obtain ⟨H, hHe⟩ : ∃ H : Heap, H = s.heap := ⟨_, rfl⟩
  have hS : va_S A s.heap H [] := by rw [hHe]; exact va_S.rf
  have hP : va_P (dC, dI) classes [cO h0 11 [Value.ref xp, Value.ref xtp, Value.ref xn, Value.ref xt, Value.ref xk, Value.ref xl, Value.ref xc, Value.ref xo, Value.ref xto, Value.ref xr, Value.ref xch, Value.int ts, Value.int ik, Value.int st], cO xn 4 [Value.ref ek, Value.ref ef, Value.ref ew, Value.ref ep, Value.ref es, Value.int (nI n), Value.int (nI sn), Value.int dn], cI aC ew 8 wf, cI aC es 5 stf, cL aC xch 73 chf] H := by rw [hHe]; exact hP
  have hl := lv_entry ([Value.ref h0, Value.int y0]) (n := 7) (Nat.le_of_ble_eq_true rfl)
  rw [lg_entry_eq]
  generalize (lg_sl ([Value.ref h0, Value.int y0]) ++ List.replicate (7 - (lg_sl ([Value.ref h0, Value.int y0])).length) Slot.unset).toArray = ls at hl ⊢
  have hl : lv_has ls 7 [(0, Value.ref h0), (1, Value.int y0)] := hl
  rw [← hHe]
  have hn8 := EVS_n hev
  have hw := HW_of hev.1
  refine lv_aload_n hx hb dX11_shakeVotes_0 rfl (lv_at hl 0 rfl) ?_
  refine va_get (D := (dC, dI)) (ci := 11) (v := Value.ref xch) (C := RX11) (T := TX11) (N := 14) hx hb hts inX11 hown hK hP 0 rfl rfl 10 (by decide) (hts _ (gw kw_236 rfl)) (fun _ h9 => h9) rfl dX11_shakeVotes_1 ?_
  refine lv_lconst (v := 0) hx hb dX11_shakeVotes_4 (by decide) ?_
  have hPc := hP.sub (ws' := [cL aC xch 73 chf]) [4] rfl
  have hDc := hD.sub (ws' := [cL aC xch 73 chf]) [4] (by decide) rfl
  have hFc := va_free (wc := [cL aC xch 73 chf]) hD hS hA [4] rfl
  refine va_callv (va_runS (As := [Value.ref xch, Value.long 0]) (rest := []) ⟨hx, hb, hml, hown, hts⟩ (c_J7_fill_d0a16 l dC dI aC H.size xch 73 chf 0 (by omega)) ⟨(callB_of 2 hts (gG kw_655) rfl rfl rfl (hts _ (gw kw_15 rfl)) (hts _ (gw kw_653 rfl)) (by decide +kernel) ⟨Nat.le_of_ble_eq_true rfl, Nat.le_of_ble_eq_true rfl⟩), (hts _ (gw kw_654 rfl))⟩ ⟨fun a U g mk q => by obtain ⟨q0, q1, qP, qK, qD, qN⟩ := q; exact ⟨q0, q1, qP, va_K.moved (u := U) (U := U.calling g mk a) (Vm.Alike.refl U.vm) qK, qD, NX.same (u := U) (U := U.calling g mk a) rfl qN⟩, fun U hU hW => ⟨rfl, by rw [hU], by rw [hU]; exact hPc, va_K.moved hW.alike hK, hDc.weaken (fun _ _ _ _ => trivial), NX.warm hW hN⟩⟩ rfl rfl hl.1 rfl (lv_room (Nat.le_of_ble_eq_true rfl)) dX11_shakeVotes_5 ⟨Nat.le_of_ble_eq_true rfl, Nat.le_of_ble_eq_true rfl⟩) hS (fun q _ h => hFc q h) hFc (fun u9 t9 H1 locs ht hvm hw_1 hB hz1 hk1 hS => ?_)
  obtain ⟨u_2, rfl⟩ : ∃ z, z = u9 := ⟨_, rfl⟩
  obtain ⟨hP1, hK1, hD1⟩ := hB
  rw [ht] at hP1
  clear hK1
  try dsimp only at hw_1
  obtain ⟨hP, hD⟩ := va_join (wr := [cO h0 11 [Value.ref xp, Value.ref xtp, Value.ref xn, Value.ref xt, Value.ref xk, Value.ref xl, Value.ref xc, Value.ref xo, Value.ref xto, Value.ref xr, Value.ref xch, Value.int ts, Value.int ik, Value.int st], cO xn 4 [Value.ref ek, Value.ref ef, Value.ref ew, Value.ref ep, Value.ref es, Value.int (nI n), Value.int (nI sn), Value.int dn], cI aC ew 8 wf, cI aC es 5 stf]) (w1 := [cL aC xch 73 u_2]) hP hD [4] [0, 1, 2, 3] rfl rfl (by decide) (by decide) hk1 hFc hP1 hD1
  generalize H1 = H at hP hS ⊢
  have hP : va_P (dC, dI) classes [cO h0 11 [Value.ref xp, Value.ref xtp, Value.ref xn, Value.ref xt, Value.ref xk, Value.ref xl, Value.ref xc, Value.ref xo, Value.ref xto, Value.ref xr, Value.ref xch, Value.int ts, Value.int ik, Value.int st], cO xn 4 [Value.ref ek, Value.ref ef, Value.ref ew, Value.ref ep, Value.ref es, Value.int (nI n), Value.int (nI sn), Value.int dn], cI aC ew 8 wf, cI aC es 5 stf, cL aC xch 73 u_2] H := hP
  have hD : va_D A [cO h0 11 [Value.ref xp, Value.ref xtp, Value.ref xn, Value.ref xt, Value.ref xk, Value.ref xl, Value.ref xc, Value.ref xo, Value.ref xto, Value.ref xr, Value.ref xch, Value.int ts, Value.int ik, Value.int st], cO xn 4 [Value.ref ek, Value.ref ef, Value.ref ew, Value.ref ep, Value.ref es, Value.int (nI n), Value.int (nI sn), Value.int dn], cI aC ew 8 wf, cI aC es 5 stf, cL aC xch 73 u_2] := hD
  clear hPc hDc hFc hz1 hk1 hP1 hD1 ht hvm
  refine lv_aload_n hx hb dX11_shakeVotes_8 rfl (lv_at hl 0 rfl) ?_
  refine va_get (D := (dC, dI)) (ci := 11) (v := Value.ref xch) (C := RX11) (T := TX11) (N := 14) hx hb hts inX11 hown hK hP 0 rfl rfl 10 (by decide) (hts _ (gw kw_236 rfl)) (fun _ h9 => h9) rfl dX11_shakeVotes_9 ?_
  refine lv_aload_n hx hb dX11_shakeVotes_12 rfl (lv_at hl 0 rfl) ?_
  refine va_get (D := (dC, dI)) (ci := 11) (v := Value.ref xn) (C := RX11) (T := TX11) (N := 14) hx hb hts inX11 hown hK hP 0 rfl rfl 2 (by decide) (hts _ (gw kw_228 rfl)) (fun _ h9 => h9) rfl dX11_shakeVotes_13 ?_
  refine va_get (D := (dC, dI)) (ci := 4) (v := Value.ref ew) (C := RX4) (T := TX4) (N := 8) hx hb hts inX4 hown hK hP 1 rfl rfl 2 (by decide) (hts _ (gw kw_39 rfl)) (fun _ h9 => h9) rfl dX11_shakeVotes_16 ?_
  refine lv_aload_n hx hb dX11_shakeVotes_19 rfl (lv_at hl 0 rfl) ?_
  refine va_get (D := (dC, dI)) (ci := 11) (v := Value.ref xn) (C := RX11) (T := TX11) (N := 14) hx hb hts inX11 hown hK hP 0 rfl rfl 2 (by decide) (hts _ (gw kw_228 rfl)) (fun _ h9 => h9) rfl dX11_shakeVotes_20 ?_
  refine va_get (D := (dC, dI)) (ci := 4) (v := Value.int (nI sn)) (C := RX4) (T := TX4) (N := 8) hx hb hts inX4 hown hK hP 1 rfl rfl 6 (by decide) (hts _ (gw kw_52 rfl)) (fun _ h9 => h9) rfl dX11_shakeVotes_23 ?_
  have h_3 : vp_in (nI sn) 8 := by first | exact vp_in_nI (by omega) (by omega) | (unfold vp_in; decide) | (subst_vars; first | (unfold vp_in; decide) | exact vp_in_nI (by omega) (by omega))
  refine va_iald hx hb hK hP 2 0 rfl rfl h_3 dX11_shakeVotes_26 ?_
  refine lv_topi (fun x_4 e_4 => ?_)
  have h9 : x_4 = nI (W0 sn) := by rw [e_4, nI_clamp (by omega)]; exact (hw.2 sn hsn).1
  subst h9
  refine lv_lconst (v := 1) hx hb dX11_shakeVotes_27 (by decide) ?_
  have h_5 : vp_in (nI (W0 sn)) 73 := by have := (hw.2 sn hsn).2; exact vp_in_nI (by omega) (by omega)
  refine va_last hx hb hK hP hD hS 4 2 rfl rfl h_5 dX11_shakeVotes_28 (fun H locs hP hD hS => ?_)
  obtain ⟨f_6, e_f_6⟩ : ∃ y : Nat → Int64, y = vp_updL u_2 (nI (W0 sn) : Int32).toNatClampNeg 1 := ⟨_, rfl⟩
  have hP : va_P (dC, dI) classes [cO h0 11 [Value.ref xp, Value.ref xtp, Value.ref xn, Value.ref xt, Value.ref xk, Value.ref xl, Value.ref xc, Value.ref xo, Value.ref xto, Value.ref xr, Value.ref xch, Value.int ts, Value.int ik, Value.int st], cO xn 4 [Value.ref ek, Value.ref ef, Value.ref ew, Value.ref ep, Value.ref es, Value.int (nI n), Value.int (nI sn), Value.int dn], cI aC ew 8 wf, cI aC es 5 stf, cL aC xch 73 f_6] H := by rw [e_f_6]; exact hP
  have hD : va_D A [cO h0 11 [Value.ref xp, Value.ref xtp, Value.ref xn, Value.ref xt, Value.ref xk, Value.ref xl, Value.ref xc, Value.ref xo, Value.ref xto, Value.ref xr, Value.ref xch, Value.int ts, Value.int ik, Value.int st], cO xn 4 [Value.ref ek, Value.ref ef, Value.ref ew, Value.ref ep, Value.ref es, Value.int (nI n), Value.int (nI sn), Value.int dn], cI aC ew 8 wf, cI aC es 5 stf, cL aC xch 73 f_6] := by rw [e_f_6]; exact hD
  refine lv_lconst (v := 1) hx hb dX11_shakeVotes_29 (by decide) ?_
  refine lv_lstore_n (lv' := [(2, Value.long 1), (0, Value.ref h0), (1, Value.int y0)]) hx hb dX11_shakeVotes_30 rfl hl (by decide) rfl (fun ls hl => ?_)
  refine lv_aload_n hx hb dX11_shakeVotes_31 rfl (lv_at hl 1 rfl) ?_
  refine va_get (D := (dC, dI)) (ci := 11) (v := Value.ref xn) (C := RX11) (T := TX11) (N := 14) hx hb hts inX11 hown hK hP 0 rfl rfl 2 (by decide) (hts _ (gw kw_228 rfl)) (fun _ h9 => h9) rfl dX11_shakeVotes_32 ?_
  refine va_get (D := (dC, dI)) (ci := 4) (v := Value.int (nI sn)) (C := RX4) (T := TX4) (N := 8) hx hb hts inX4 hown hK hP 1 rfl rfl 6 (by decide) (hts _ (gw kw_52 rfl)) (fun _ h9 => h9) rfl dX11_shakeVotes_35 ?_
  refine lv_iconst (v := 1) hx hb dX11_shakeVotes_38 (by decide) ?_
  refine lv_iadd hx hb dX11_shakeVotes_39 ?_
  refine lv_topi (fun x_7 e_7 => ?_)
  refine lv_istore (lv' := [(4, Value.int x_7), (2, Value.long 1), (0, Value.ref h0), (1, Value.int y0)]) hx hb dX11_shakeVotes_40 hl (by decide) rfl (fun ls hl => ?_)
  have h9 : x_7 = nI (sn + 1) := by rw [e_7, nI_1]
  subst h9
  have lp_42 : ∀ (fu : Nat) (j : Nat) (x2 : Int64) (cc : Nat → Int64) (hfu : n - j < fu) (hj : sn < j ∧ j ≤ n) (H : Heap) (locs : List Loc) (ls : Array Slot), va_P (dC, dI) classes [cO h0 11 [Value.ref xp, Value.ref xtp, Value.ref xn, Value.ref xt, Value.ref xk, Value.ref xl, Value.ref xc, Value.ref xo, Value.ref xto, Value.ref xr, Value.ref xch, Value.int ts, Value.int ik, Value.int st], cO xn 4 [Value.ref ek, Value.ref ef, Value.ref ew, Value.ref ep, Value.ref es, Value.int (nI n), Value.int (nI sn), Value.int dn], cI aC ew 8 wf, cI aC es 5 stf, cL aC xch 73 cc] H → va_D A [cO h0 11 [Value.ref xp, Value.ref xtp, Value.ref xn, Value.ref xt, Value.ref xk, Value.ref xl, Value.ref xc, Value.ref xo, Value.ref xto, Value.ref xr, Value.ref xch, Value.int ts, Value.int ik, Value.int st], cO xn 4 [Value.ref ek, Value.ref ef, Value.ref ew, Value.ref ep, Value.ref es, Value.int (nI n), Value.int (nI sn), Value.int dn], cI aC ew 8 wf, cI aC es 5 stf, cL aC xch 73 cc] → va_S A s.heap H locs → lv_has ls 7 [(0, Value.ref h0), (1, Value.int y0), (2, Value.long x2), (4, Value.int (nI j))] → W p l e (headSpec (wW yX11_shakeVotes cX11_shakeVotes 7 (some .long)) ({ frames := 1, cells := 0, slots := 0, locals := 25 } : Room)).room s m ([Value.ref h0, Value.int y0] : List Value).toArray below meth c H locs 0 0 (MQ below (va_Ql (fun (r : Int64) (chg : Nat → Int64) => True) (fun (chg : Nat → Int64) (t : State) => va_P (dC, dI) classes [cO h0 11 [Value.ref xp, Value.ref xtp, Value.ref xn, Value.ref xt, Value.ref xk, Value.ref xl, Value.ref xc, Value.ref xo, Value.ref xto, Value.ref xr, Value.ref xch, Value.int ts, Value.int ik, Value.int st], cO xn 4 [Value.ref ek, Value.ref ef, Value.ref ew, Value.ref ep, Value.ref es, Value.int (nI n), Value.int (nI sn), Value.int dn], cI aC ew 8 wf, cI aC es 5 stf, cL aC xch 73 chg] t.heap ∧ va_K (dC, dI) classes (TY aC) t ∧ va_D A [cO h0 11 [Value.ref xp, Value.ref xtp, Value.ref xn, Value.ref xt, Value.ref xk, Value.ref xl, Value.ref xc, Value.ref xo, Value.ref xto, Value.ref xr, Value.ref xch, Value.int ts, Value.int ik, Value.int st], cO xn 4 [Value.ref ek, Value.ref ef, Value.ref ew, Value.ref ep, Value.ref es, Value.int (nI n), Value.int (nI sn), Value.int dn], cI aC ew 8 wf, cI aC es 5 stf, cL aC xch 73 chg]) A) ([Value.ref h0, Value.int y0] : List Value).toArray s 0 0 A) (F0 m 42 ls []) := by
    intro fu
    induction fu with
    | zero => intro j x2 cc hfu; exact absurd hfu (Nat.not_lt_zero _)
    | succ fu ih_42 =>
      intro j x2 cc hfu hj H locs ls hP hD hS hl
      refine lv_iload hx hb dX11_shakeVotes_42 (lv_at hl 3 rfl) ?_
      refine lv_aload_n hx hb dX11_shakeVotes_44 rfl (lv_at hl 0 rfl) ?_
      refine va_get (D := (dC, dI)) (ci := 11) (v := Value.ref xn) (C := RX11) (T := TX11) (N := 14) hx hb hts inX11 hown hK hP 0 rfl rfl 2 (by decide) (hts _ (gw kw_228 rfl)) (fun _ h9 => h9) rfl dX11_shakeVotes_45 ?_
      refine va_get (D := (dC, dI)) (ci := 4) (v := Value.int (nI n)) (C := RX4) (T := TX4) (N := 8) hx hb hts inX4 hown hK hP 1 rfl rfl 5 (by decide) (hts _ (gw kw_50 rfl)) (fun _ h9 => h9) rfl dX11_shakeVotes_48 ?_
      refine lv_icmp_ge (tgt := 115) hx hb dX11_shakeVotes_51 (by decide) (fun c_8 => ?_) (fun c_8 => ?_)
      · refine lv_lload_n hx hb dX11_shakeVotes_115 rfl (lv_at hl 2 rfl) ?_
        have hP9 := hP.sub (ws' := [cO h0 11 [Value.ref xp, Value.ref xtp, Value.ref xn, Value.ref xt, Value.ref xk, Value.ref xl, Value.ref xc, Value.ref xo, Value.ref xto, Value.ref xr, Value.ref xch, Value.int ts, Value.int ik, Value.int st], cO xn 4 [Value.ref ek, Value.ref ef, Value.ref ew, Value.ref ep, Value.ref es, Value.int (nI n), Value.int (nI sn), Value.int dn], cI aC ew 8 wf, cI aC es 5 stf, cL aC xch 73 cc]) [0, 1, 2, 3, 4] rfl
        have hD9 := hD.sub (ws' := [cO h0 11 [Value.ref xp, Value.ref xtp, Value.ref xn, Value.ref xt, Value.ref xk, Value.ref xl, Value.ref xc, Value.ref xo, Value.ref xto, Value.ref xr, Value.ref xch, Value.int ts, Value.int ik, Value.int st], cO xn 4 [Value.ref ek, Value.ref ef, Value.ref ew, Value.ref ep, Value.ref es, Value.int (nI n), Value.int (nI sn), Value.int dn], cI aC ew 8 wf, cI aC es 5 stf, cL aC xch 73 cc]) [0, 1, 2, 3, 4] (by decide) rfl
        refine W.widen (k := 0) (n := 0) (by omega) (by omega) ?_
        exact W.lret (v := x2) hx hb hr (fun t ht hW => ⟨⟨x2, (cc), rfl, trivial, by rw [ht]; exact hP9, va_K.moved hW.alike hK, hD9⟩, hS.F ht⟩) hS.2.2 dX11_shakeVotes_116
      · have hlt : j < n := by
          rcases Nat.lt_or_ge j n with q | q
          · exact q
          · exact absurd (nI_le q (by omega)) c_8
        refine lv_aload_n hx hb dX11_shakeVotes_54 rfl (lv_at hl 0 rfl) ?_
        refine va_get (D := (dC, dI)) (ci := 11) (v := Value.ref xn) (C := RX11) (T := TX11) (N := 14) hx hb hts inX11 hown hK hP 0 rfl rfl 2 (by decide) (hts _ (gw kw_228 rfl)) (fun _ h9 => h9) rfl dX11_shakeVotes_55 ?_
        refine va_get (D := (dC, dI)) (ci := 4) (v := Value.ref es) (C := RX4) (T := TX4) (N := 8) hx hb hts inX4 hown hK hP 1 rfl rfl 4 (by decide) (hts _ (gw kw_45 rfl)) (fun _ h9 => h9) rfl dX11_shakeVotes_58 ?_
        refine lv_iconst (v := 4) hx hb dX11_shakeVotes_61 (by decide) ?_
        have h_9 : vp_in 4 5 := by unfold vp_in; decide
        refine va_iald hx hb hK hP 3 0 rfl rfl h_9 dX11_shakeVotes_62 ?_
        refine lv_topi (fun x_10 e_10 => ?_)
        refine lv_istore (lv' := [(5, Value.int x_10), (0, Value.ref h0), (1, Value.int y0), (2, Value.long x2), (4, Value.int (nI j))]) hx hb dX11_shakeVotes_63 hl (by decide) rfl (fun ls hl => ?_)
        refine lv_iload_n hx hb dX11_shakeVotes_65 rfl (lv_at hl 2 rfl) ?_
        refine lv_iload hx hb dX11_shakeVotes_66 (lv_at hl 4 rfl) ?_
        refine lv_ishr hx hb dX11_shakeVotes_68 ?_
        refine lv_topi (fun x_11 e_11 => ?_)
        refine lv_iconst (v := 1) hx hb dX11_shakeVotes_69 (by decide) ?_
        refine lv_iand hx hb dX11_shakeVotes_70 ?_
        refine lv_topi (fun x_12 e_12 => ?_)
        refine lv_iconst (v := 1) hx hb dX11_shakeVotes_71 (by decide) ?_
        refine lv_icmp_ne (tgt := 83) hx hb dX11_shakeVotes_72 (by decide) (fun c_13 => ?_) (fun c_13 => ?_)
        · refine lv_iload hx hb dX11_shakeVotes_83 (lv_at hl 0 rfl) ?_
          refine lv_istore (lv' := [(6, Value.int x_10), (5, Value.int x_10), (0, Value.ref h0), (1, Value.int y0), (2, Value.long x2), (4, Value.int (nI j))]) hx hb dX11_shakeVotes_85 hl (by decide) rfl (fun ls hl => ?_)
          refine lv_aload_n hx hb dX11_shakeVotes_87 rfl (lv_at hl 2 rfl) ?_
          refine lv_aload_n hx hb dX11_shakeVotes_88 rfl (lv_at hl 2 rfl) ?_
          refine va_get (D := (dC, dI)) (ci := 11) (v := Value.ref xn) (C := RX11) (T := TX11) (N := 14) hx hb hts inX11 hown hK hP 0 rfl rfl 2 (by decide) (hts _ (gw kw_228 rfl)) (fun _ h9 => h9) rfl dX11_shakeVotes_89 ?_
          refine va_get (D := (dC, dI)) (ci := 4) (v := Value.ref ew) (C := RX4) (T := TX4) (N := 8) hx hb hts inX4 hown hK hP 1 rfl rfl 2 (by decide) (hts _ (gw kw_39 rfl)) (fun _ h9 => h9) rfl dX11_shakeVotes_92 ?_
          refine lv_iload hx hb dX11_shakeVotes_95 (lv_at hl 5 rfl) ?_
          have h_14 : vp_in (nI j) 8 := by first | exact vp_in_nI (by omega) (by omega) | (unfold vp_in; decide) | (subst_vars; first | (unfold vp_in; decide) | exact vp_in_nI (by omega) (by omega))
          refine va_iald hx hb hK hP 2 0 rfl rfl h_14 dX11_shakeVotes_97 ?_
          refine lv_topi (fun x_15 e_15 => ?_)
          have h9 : x_15 = nI (W0 j) := by rw [e_15, nI_clamp (by omega)]; exact (hw.2 j hlt).1
          subst h9
          refine lv_iload hx hb dX11_shakeVotes_98 (lv_at hl 0 rfl) ?_
          have hPc := hP.sub (ws' := [cO h0 11 [Value.ref xp, Value.ref xtp, Value.ref xn, Value.ref xt, Value.ref xk, Value.ref xl, Value.ref xc, Value.ref xo, Value.ref xto, Value.ref xr, Value.ref xch, Value.int ts, Value.int ik, Value.int st], cL aC xch 73 cc]) [0, 4] rfl
          have hDc := hD.sub (ws' := [cO h0 11 [Value.ref xp, Value.ref xtp, Value.ref xn, Value.ref xt, Value.ref xk, Value.ref xl, Value.ref xc, Value.ref xo, Value.ref xto, Value.ref xr, Value.ref xch, Value.int ts, Value.int ik, Value.int st], cL aC xch 73 cc]) [0, 4] (by decide) rfl
          have hFc := va_free (wc := [cO h0 11 [Value.ref xp, Value.ref xtp, Value.ref xn, Value.ref xt, Value.ref xk, Value.ref xl, Value.ref xc, Value.ref xo, Value.ref xto, Value.ref xr, Value.ref xch, Value.int ts, Value.int ik, Value.int st], cL aC xch 73 cc]) hD hS hA [0, 4] rfl
          refine va_callv (va_runV (As := [Value.int (nI (W0 j)), Value.int x_10]) (rest := []) ⟨hx, hb, hml, hown, hts⟩ (c_X11_addVoter l dC dI aC H.size h0 xp xtp xn xt xk xl xc xo xto xr xch ts ik st cc (W0 j) x_10 ((hw.2 j hlt).2)) ⟨(callB_of 2 hts (gG kw_659) rfl rfl rfl (hts _ (gw kw_1 rfl)) (hts _ (gw kw_656 rfl)) (by decide +kernel) ⟨Nat.le_of_ble_eq_true rfl, Nat.le_of_ble_eq_true rfl⟩), (hts _ (gw kw_658 rfl)), (hts _ (gw ks_30 rfl))⟩ ⟨fun a U g mk q => by obtain ⟨q0, q1, qP, qK, qD, qN⟩ := q; exact ⟨q0, q1, qP, va_K.moved (u := U) (U := U.calling g mk a) (Vm.Alike.refl U.vm) qK, qD, NX.same (u := U) (U := U.calling g mk a) rfl qN⟩, va_recv hK hPc (ci := 11) (q0 := 0) rfl rfl, fun U hU hW => ⟨rfl, by rw [hU], by rw [hU]; exact hPc, va_K.moved hW.alike hK, hDc.weaken (fun _ _ _ _ => trivial), NX.warm hW hN⟩⟩ rfl rfl hl.1 rfl (lv_room (Nat.le_of_ble_eq_true rfl)) dX11_shakeVotes_100 ⟨Nat.le_of_ble_eq_true rfl, Nat.le_of_ble_eq_true rfl⟩) hS (fun q _ h => hFc q h) hFc (fun u9 t9 H1 locs ht hvm hw_16 hB hz1 hk1 hS => ?_)
          obtain ⟨u_17, rfl⟩ : ∃ z, z = u9 := ⟨_, rfl⟩
          obtain ⟨hP1, hK1, hD1⟩ := hB
          rw [ht] at hP1
          clear hK1
          try dsimp only at hw_16
          obtain ⟨hP, hD⟩ := va_join (wr := [cO xn 4 [Value.ref ek, Value.ref ef, Value.ref ew, Value.ref ep, Value.ref es, Value.int (nI n), Value.int (nI sn), Value.int dn], cI aC ew 8 wf, cI aC es 5 stf]) (w1 := [cO h0 11 [Value.ref xp, Value.ref xtp, Value.ref xn, Value.ref xt, Value.ref xk, Value.ref xl, Value.ref xc, Value.ref xo, Value.ref xto, Value.ref xr, Value.ref xch, Value.int ts, Value.int ik, Value.int st], cL aC xch 73 u_17]) hP hD [0, 4] [1, 2, 3] rfl rfl (by decide) (by decide) hk1 hFc hP1 hD1
          generalize H1 = H at hP hS ⊢
          have hP : va_P (dC, dI) classes [cO xn 4 [Value.ref ek, Value.ref ef, Value.ref ew, Value.ref ep, Value.ref es, Value.int (nI n), Value.int (nI sn), Value.int dn], cI aC ew 8 wf, cI aC es 5 stf, cO h0 11 [Value.ref xp, Value.ref xtp, Value.ref xn, Value.ref xt, Value.ref xk, Value.ref xl, Value.ref xc, Value.ref xo, Value.ref xto, Value.ref xr, Value.ref xch, Value.int ts, Value.int ik, Value.int st], cL aC xch 73 u_17] H := hP
          have hD : va_D A [cO xn 4 [Value.ref ek, Value.ref ef, Value.ref ew, Value.ref ep, Value.ref es, Value.int (nI n), Value.int (nI sn), Value.int dn], cI aC ew 8 wf, cI aC es 5 stf, cO h0 11 [Value.ref xp, Value.ref xtp, Value.ref xn, Value.ref xt, Value.ref xk, Value.ref xl, Value.ref xc, Value.ref xo, Value.ref xto, Value.ref xr, Value.ref xch, Value.int ts, Value.int ik, Value.int st], cL aC xch 73 u_17] := hD
          clear hPc hDc hFc hz1 hk1 hP1 hD1 ht hvm
          refine lv_lload_n hx hb dX11_shakeVotes_103 rfl (lv_at hl 4 rfl) ?_
          refine lv_ldc2 hx hb hown (hts _ (gw kw_660 rfl)) dX11_shakeVotes_104 ?_
          refine lv_lmul hx hb dX11_shakeVotes_107 ?_
          refine lv_topl (fun x_18 e_18 => ?_)
          refine lv_lstore_n (lv' := [(2, Value.long x_18), (6, Value.int x_10), (5, Value.int x_10), (0, Value.ref h0), (1, Value.int y0), (4, Value.int (nI j))]) hx hb dX11_shakeVotes_108 rfl hl (by decide) rfl (fun ls hl => ?_)
          obtain ⟨x_19, e_19⟩ : ∃ y : Int32, y = (nI j) + 1 := ⟨_, rfl⟩
          refine lv_iinc (v := x_19) (lv' := [(4, Value.int x_19), (2, Value.long x_18), (6, Value.int x_10), (5, Value.int x_10), (0, Value.ref h0), (1, Value.int y0)]) hx hb dX11_shakeVotes_109 hl (k := 5) rfl (by rw [e_19]; rfl) (by decide) rfl (fun ls hl => ?_)
          have h9 : x_19 = nI (j + 1) := by rw [e_19, nI_1]
          subst h9
          refine lv_goto (tgt := 42) hx hb dX11_shakeVotes_112 (by decide) ?_
          exact ih_42 (j + 1) x_18 u_17 (ms_lt hlt hfu) (by omega) _ _ _ (hP.sub [3, 0, 1, 2, 4] rfl) (hD.sub [3, 0, 1, 2, 4] (by decide) rfl) hS (lv_sub hl [4, 5, 1, 0] rfl)
        · refine lv_bipush (v := 100) hx hb dX11_shakeVotes_75 (by decide) ?_
          refine lv_iload hx hb dX11_shakeVotes_77 (lv_at hl 0 rfl) ?_
          refine lv_isub hx hb dX11_shakeVotes_79 ?_
          refine lv_topi (fun x_20 e_20 => ?_)
          refine lv_goto (tgt := 85) hx hb dX11_shakeVotes_80 (by decide) ?_
          refine lv_istore (lv' := [(6, Value.int x_20), (5, Value.int x_10), (0, Value.ref h0), (1, Value.int y0), (2, Value.long x2), (4, Value.int (nI j))]) hx hb dX11_shakeVotes_85 hl (by decide) rfl (fun ls hl => ?_)
          refine lv_aload_n hx hb dX11_shakeVotes_87 rfl (lv_at hl 2 rfl) ?_
          refine lv_aload_n hx hb dX11_shakeVotes_88 rfl (lv_at hl 2 rfl) ?_
          refine va_get (D := (dC, dI)) (ci := 11) (v := Value.ref xn) (C := RX11) (T := TX11) (N := 14) hx hb hts inX11 hown hK hP 0 rfl rfl 2 (by decide) (hts _ (gw kw_228 rfl)) (fun _ h9 => h9) rfl dX11_shakeVotes_89 ?_
          refine va_get (D := (dC, dI)) (ci := 4) (v := Value.ref ew) (C := RX4) (T := TX4) (N := 8) hx hb hts inX4 hown hK hP 1 rfl rfl 2 (by decide) (hts _ (gw kw_39 rfl)) (fun _ h9 => h9) rfl dX11_shakeVotes_92 ?_
          refine lv_iload hx hb dX11_shakeVotes_95 (lv_at hl 5 rfl) ?_
          have h_21 : vp_in (nI j) 8 := by first | exact vp_in_nI (by omega) (by omega) | (unfold vp_in; decide) | (subst_vars; first | (unfold vp_in; decide) | exact vp_in_nI (by omega) (by omega))
          refine va_iald hx hb hK hP 2 0 rfl rfl h_21 dX11_shakeVotes_97 ?_
          refine lv_topi (fun x_22 e_22 => ?_)
          have h9 : x_22 = nI (W0 j) := by rw [e_22, nI_clamp (by omega)]; exact (hw.2 j hlt).1
          subst h9
          refine lv_iload hx hb dX11_shakeVotes_98 (lv_at hl 0 rfl) ?_
          have hPc := hP.sub (ws' := [cO h0 11 [Value.ref xp, Value.ref xtp, Value.ref xn, Value.ref xt, Value.ref xk, Value.ref xl, Value.ref xc, Value.ref xo, Value.ref xto, Value.ref xr, Value.ref xch, Value.int ts, Value.int ik, Value.int st], cL aC xch 73 cc]) [0, 4] rfl
          have hDc := hD.sub (ws' := [cO h0 11 [Value.ref xp, Value.ref xtp, Value.ref xn, Value.ref xt, Value.ref xk, Value.ref xl, Value.ref xc, Value.ref xo, Value.ref xto, Value.ref xr, Value.ref xch, Value.int ts, Value.int ik, Value.int st], cL aC xch 73 cc]) [0, 4] (by decide) rfl
          have hFc := va_free (wc := [cO h0 11 [Value.ref xp, Value.ref xtp, Value.ref xn, Value.ref xt, Value.ref xk, Value.ref xl, Value.ref xc, Value.ref xo, Value.ref xto, Value.ref xr, Value.ref xch, Value.int ts, Value.int ik, Value.int st], cL aC xch 73 cc]) hD hS hA [0, 4] rfl
          refine va_callv (va_runV (As := [Value.int (nI (W0 j)), Value.int x_20]) (rest := []) ⟨hx, hb, hml, hown, hts⟩ (c_X11_addVoter l dC dI aC H.size h0 xp xtp xn xt xk xl xc xo xto xr xch ts ik st cc (W0 j) x_20 ((hw.2 j hlt).2)) ⟨(callB_of 2 hts (gG kw_659) rfl rfl rfl (hts _ (gw kw_1 rfl)) (hts _ (gw kw_656 rfl)) (by decide +kernel) ⟨Nat.le_of_ble_eq_true rfl, Nat.le_of_ble_eq_true rfl⟩), (hts _ (gw kw_658 rfl)), (hts _ (gw ks_30 rfl))⟩ ⟨fun a U g mk q => by obtain ⟨q0, q1, qP, qK, qD, qN⟩ := q; exact ⟨q0, q1, qP, va_K.moved (u := U) (U := U.calling g mk a) (Vm.Alike.refl U.vm) qK, qD, NX.same (u := U) (U := U.calling g mk a) rfl qN⟩, va_recv hK hPc (ci := 11) (q0 := 0) rfl rfl, fun U hU hW => ⟨rfl, by rw [hU], by rw [hU]; exact hPc, va_K.moved hW.alike hK, hDc.weaken (fun _ _ _ _ => trivial), NX.warm hW hN⟩⟩ rfl rfl hl.1 rfl (lv_room (Nat.le_of_ble_eq_true rfl)) dX11_shakeVotes_100 ⟨Nat.le_of_ble_eq_true rfl, Nat.le_of_ble_eq_true rfl⟩) hS (fun q _ h => hFc q h) hFc (fun u9 t9 H1 locs ht hvm hw_23 hB hz1 hk1 hS => ?_)
          obtain ⟨u_24, rfl⟩ : ∃ z, z = u9 := ⟨_, rfl⟩
          obtain ⟨hP1, hK1, hD1⟩ := hB
          rw [ht] at hP1
          clear hK1
          try dsimp only at hw_23
          obtain ⟨hP, hD⟩ := va_join (wr := [cO xn 4 [Value.ref ek, Value.ref ef, Value.ref ew, Value.ref ep, Value.ref es, Value.int (nI n), Value.int (nI sn), Value.int dn], cI aC ew 8 wf, cI aC es 5 stf]) (w1 := [cO h0 11 [Value.ref xp, Value.ref xtp, Value.ref xn, Value.ref xt, Value.ref xk, Value.ref xl, Value.ref xc, Value.ref xo, Value.ref xto, Value.ref xr, Value.ref xch, Value.int ts, Value.int ik, Value.int st], cL aC xch 73 u_24]) hP hD [0, 4] [1, 2, 3] rfl rfl (by decide) (by decide) hk1 hFc hP1 hD1
          generalize H1 = H at hP hS ⊢
          have hP : va_P (dC, dI) classes [cO xn 4 [Value.ref ek, Value.ref ef, Value.ref ew, Value.ref ep, Value.ref es, Value.int (nI n), Value.int (nI sn), Value.int dn], cI aC ew 8 wf, cI aC es 5 stf, cO h0 11 [Value.ref xp, Value.ref xtp, Value.ref xn, Value.ref xt, Value.ref xk, Value.ref xl, Value.ref xc, Value.ref xo, Value.ref xto, Value.ref xr, Value.ref xch, Value.int ts, Value.int ik, Value.int st], cL aC xch 73 u_24] H := hP
          have hD : va_D A [cO xn 4 [Value.ref ek, Value.ref ef, Value.ref ew, Value.ref ep, Value.ref es, Value.int (nI n), Value.int (nI sn), Value.int dn], cI aC ew 8 wf, cI aC es 5 stf, cO h0 11 [Value.ref xp, Value.ref xtp, Value.ref xn, Value.ref xt, Value.ref xk, Value.ref xl, Value.ref xc, Value.ref xo, Value.ref xto, Value.ref xr, Value.ref xch, Value.int ts, Value.int ik, Value.int st], cL aC xch 73 u_24] := hD
          clear hPc hDc hFc hz1 hk1 hP1 hD1 ht hvm
          refine lv_lload_n hx hb dX11_shakeVotes_103 rfl (lv_at hl 4 rfl) ?_
          refine lv_ldc2 hx hb hown (hts _ (gw kw_660 rfl)) dX11_shakeVotes_104 ?_
          refine lv_lmul hx hb dX11_shakeVotes_107 ?_
          refine lv_topl (fun x_25 e_25 => ?_)
          refine lv_lstore_n (lv' := [(2, Value.long x_25), (6, Value.int x_20), (5, Value.int x_10), (0, Value.ref h0), (1, Value.int y0), (4, Value.int (nI j))]) hx hb dX11_shakeVotes_108 rfl hl (by decide) rfl (fun ls hl => ?_)
          obtain ⟨x_26, e_26⟩ : ∃ y : Int32, y = (nI j) + 1 := ⟨_, rfl⟩
          refine lv_iinc (v := x_26) (lv' := [(4, Value.int x_26), (2, Value.long x_25), (6, Value.int x_20), (5, Value.int x_10), (0, Value.ref h0), (1, Value.int y0)]) hx hb dX11_shakeVotes_109 hl (k := 5) rfl (by rw [e_26]; rfl) (by decide) rfl (fun ls hl => ?_)
          have h9 : x_26 = nI (j + 1) := by rw [e_26, nI_1]
          subst h9
          refine lv_goto (tgt := 42) hx hb dX11_shakeVotes_112 (by decide) ?_
          exact ih_42 (j + 1) x_25 u_24 (ms_lt hlt hfu) (by omega) _ _ _ (hP.sub [3, 0, 1, 2, 4] rfl) (hD.sub [3, 0, 1, 2, 4] (by decide) rfl) hS (lv_sub hl [4, 5, 1, 0] rfl)
  exact lp_42 ((n - (sn + 1)) + 1) (sn + 1) 1 f_6 (Nat.lt_succ_self _) (by omega) _ _ _ (hP.sub [0, 1, 2, 3, 4] rfl) (hD.sub [0, 1, 2, 3, 4] (by decide) rfl) hS (lv_sub hl [2, 3, 1, 0] rfl)

set_option maxHeartbeats 1000000 in
set_option maxRecDepth 100000 in
/-- X11_chanceCarried -/
theorem c_X11_chanceCarried (l : Launch) (dC : Nat → ClassId) (dI : Nat → Nat → Nat) (aC : Nat → ClassId) (sz : Nat) (h0 : Nat) (xp : Nat) (xtp : Nat) (xn : Nat) (xt : Nat) (xk : Nat) (xl : Nat) (xc : Nat) (xo : Nat) (xto : Nat) (xr : Nat) (xch : Nat) (ts : Int32) (ik : Int32) (st : Int32) (ek : Nat) (ef : Nat) (ew : Nat) (ep : Nat) (es : Nat) (n : Nat) (sn : Nat) (dn : Int32) (kf : Nat → Int32) (ff : Nat → Int32) (wf : Nat → Int32) (stf : Nat → Int32) (K : Nat → Nat) (F : Nat → Nat) (W0 : Nat → Nat) (S5 : Nat → Nat) (chf : Nat → Int64) (hev : EVS n sn dn K F W0 S5 kf ff wf stf) : Met l yX11_chanceCarried (wW yX11_chanceCarried cX11_chanceCarried 5 (some .long)) ({ frames := 2, cells := 0, slots := 0, locals := 36 } : Room) (va_Pc [Value.ref h0] (fun U => U.heap.size = sz ∧ va_P (dC, dI) classes [cO h0 11 [Value.ref xp, Value.ref xtp, Value.ref xn, Value.ref xt, Value.ref xk, Value.ref xl, Value.ref xc, Value.ref xo, Value.ref xto, Value.ref xr, Value.ref xch, Value.int ts, Value.int ik, Value.int st], cO xn 4 [Value.ref ek, Value.ref ef, Value.ref ew, Value.ref ep, Value.ref es, Value.int (nI n), Value.int (nI sn), Value.int dn], cI aC ew 8 wf, cI aC es 5 stf, cL aC xch 73 chf] U.heap ∧ va_K (dC, dI) classes (TY aC) U ∧ va_D (fun _ => True) [cO h0 11 [Value.ref xp, Value.ref xtp, Value.ref xn, Value.ref xt, Value.ref xk, Value.ref xl, Value.ref xc, Value.ref xo, Value.ref xto, Value.ref xr, Value.ref xch, Value.int ts, Value.int ik, Value.int st], cO xn 4 [Value.ref ek, Value.ref ef, Value.ref ew, Value.ref ep, Value.ref es, Value.int (nI n), Value.int (nI sn), Value.int dn], cI aC ew 8 wf, cI aC es 5 stf, cL aC xch 73 chf] ∧ NX U)) (va_Ql (fun (r : Int64) (_ : Unit) => True) (fun (_ : Unit) (t : State) => va_P (dC, dI) classes [cO h0 11 [Value.ref xp, Value.ref xtp, Value.ref xn, Value.ref xt, Value.ref xk, Value.ref xl, Value.ref xc, Value.ref xo, Value.ref xto, Value.ref xr, Value.ref xch, Value.int ts, Value.int ik, Value.int st], cO xn 4 [Value.ref ek, Value.ref ef, Value.ref ew, Value.ref ep, Value.ref es, Value.int (nI n), Value.int (nI sn), Value.int dn], cI aC ew 8 wf, cI aC es 5 stf, cL aC xch 73 chf] t.heap ∧ va_K (dC, dI) classes (TY aC) t ∧ va_D (va_A [cO h0 11 [Value.ref xp, Value.ref xtp, Value.ref xn, Value.ref xt, Value.ref xk, Value.ref xl, Value.ref xc, Value.ref xo, Value.ref xto, Value.ref xr, Value.ref xch, Value.int ts, Value.int ik, Value.int st], cO xn 4 [Value.ref ek, Value.ref ef, Value.ref ew, Value.ref ep, Value.ref es, Value.int (nI n), Value.int (nI sn), Value.int dn], cI aC ew 8 wf, cI aC es 5 stf, cL aC xch 73 chf] sz) [cO h0 11 [Value.ref xp, Value.ref xtp, Value.ref xn, Value.ref xt, Value.ref xk, Value.ref xl, Value.ref xc, Value.ref xo, Value.ref xto, Value.ref xr, Value.ref xch, Value.int ts, Value.int ik, Value.int st], cO xn 4 [Value.ref ek, Value.ref ef, Value.ref ew, Value.ref ep, Value.ref es, Value.int (nI n), Value.int (nI sn), Value.int dn], cI aC ew 8 wf, cI aC es 5 stf, cL aC xch 73 chf]) (va_A [cO h0 11 [Value.ref xp, Value.ref xtp, Value.ref xn, Value.ref xt, Value.ref xk, Value.ref xl, Value.ref xc, Value.ref xo, Value.ref xto, Value.ref xr, Value.ref xch, Value.int ts, Value.int ik, Value.int st], cO xn 4 [Value.ref ek, Value.ref ef, Value.ref ew, Value.ref ep, Value.ref es, Value.int (nI n), Value.int (nI sn), Value.int dn], cI aC ew 8 wf, cI aC es 5 stf, cL aC xch 73 chf] sz)) 0 0 (va_A [cO h0 11 [Value.ref xp, Value.ref xtp, Value.ref xn, Value.ref xt, Value.ref xk, Value.ref xl, Value.ref xc, Value.ref xo, Value.ref xto, Value.ref xr, Value.ref xch, Value.int ts, Value.int ik, Value.int st], cO xn 4 [Value.ref ek, Value.ref ef, Value.ref ew, Value.ref ep, Value.ref es, Value.int (nI n), Value.int (nI sn), Value.int dn], cI aC ew 8 wf, cI aC es 5 stf, cL aC xch 73 chf] sz) := by
  refine Met.ofW (cc := cX11_chanceCarried) (maxL := 5) (ret := (some .long)) (by decide) rfl ?_
  intro p e s m args below meth c s₁ B hml hv
  obtain ⟨rfl, hsz, hP, hK, hD0, hN⟩ := hv
  have hx := B.exec
  have hb := B.bytes
  have hr := B.returns
  have hts0 := atoms_spec (ws := (wW yX11_chanceCarried cX11_chanceCarried 5 (some .long))) B.pre
  have hts : ∀ w9 ∈ lw_G, w9.before ([Value.ref h0] : List Value).toArray s = true := fun w9 h9 => hts0 w9 (List.mem_cons_of_mem _ h9)
  have hown : s.vm.findClass RX11 = some m.cls := findClass_of_methodNamed B.named
  have hlocks := B.notSynchronized
  subst hsz
  have hD := hD0.self (sz := s.heap.size)
  generalize hAe : va_A [cO h0 11 [Value.ref xp, Value.ref xtp, Value.ref xn, Value.ref xt, Value.ref xk, Value.ref xl, Value.ref xc, Value.ref xo, Value.ref xto, Value.ref xr, Value.ref xch, Value.int ts, Value.int ik, Value.int st], cO xn 4 [Value.ref ek, Value.ref ef, Value.ref ew, Value.ref ep, Value.ref es, Value.int (nI n), Value.int (nI sn), Value.int dn], cI aC ew 8 wf, cI aC es 5 stf, cL aC xch 73 chf] s.heap.size = A at hD ⊢
  have hA : ∀ q : Nat, s.heap.size ≤ q → A q := fun q h => by rw [← hAe]; exact Or.inr h
  obtain ⟨H, hHe⟩ : ∃ H : Heap, H = s.heap := ⟨_, rfl⟩
  have hS : va_S A s.heap H [] := by rw [hHe]; exact va_S.rf
  have hP : va_P (dC, dI) classes [cO h0 11 [Value.ref xp, Value.ref xtp, Value.ref xn, Value.ref xt, Value.ref xk, Value.ref xl, Value.ref xc, Value.ref xo, Value.ref xto, Value.ref xr, Value.ref xch, Value.int ts, Value.int ik, Value.int st], cO xn 4 [Value.ref ek, Value.ref ef, Value.ref ew, Value.ref ep, Value.ref es, Value.int (nI n), Value.int (nI sn), Value.int dn], cI aC ew 8 wf, cI aC es 5 stf, cL aC xch 73 chf] H := by rw [hHe]; exact hP
  have hl := lv_entry ([Value.ref h0]) (n := 5) (Nat.le_of_ble_eq_true rfl)
  rw [lg_entry_eq]
  generalize (lg_sl ([Value.ref h0]) ++ List.replicate (5 - (lg_sl ([Value.ref h0])).length) Slot.unset).toArray = ls at hl ⊢
  have hl : lv_has ls 5 [(0, Value.ref h0)] := hl
  rw [← hHe]
  have hn8 := EVS_n hev
  have hw := HW_of hev.1
  have hs9 := w_le (W := W0) (a := sn) (k := n - sn) (fun j q => (hw.2 j q).2) (by have := sn_le hev; omega) hn8
  refine lv_aload_n hx hb dX11_chanceCarried_0 rfl (lv_at hl 0 rfl) ?_
  refine va_get (D := (dC, dI)) (ci := 11) (v := Value.ref xn) (C := RX11) (T := TX11) (N := 14) hx hb hts inX11 hown hK hP 0 rfl rfl 2 (by decide) (hts _ (gw kw_228 rfl)) (fun _ h9 => h9) rfl dX11_chanceCarried_1 ?_
  refine lv_aload_n hx hb dX11_chanceCarried_4 rfl (lv_at hl 0 rfl) ?_
  refine va_get (D := (dC, dI)) (ci := 11) (v := Value.ref xn) (C := RX11) (T := TX11) (N := 14) hx hb hts inX11 hown hK hP 0 rfl rfl 2 (by decide) (hts _ (gw kw_228 rfl)) (fun _ h9 => h9) rfl dX11_chanceCarried_5 ?_
  refine va_get (D := (dC, dI)) (ci := 4) (v := Value.int (nI sn)) (C := RX4) (T := TX4) (N := 8) hx hb hts inX4 hown hK hP 1 rfl rfl 6 (by decide) (hts _ (gw kw_52 rfl)) (fun _ h9 => h9) rfl dX11_chanceCarried_8 ?_
  have hPc := hP.sub (ws' := [cO xn 4 [Value.ref ek, Value.ref ef, Value.ref ew, Value.ref ep, Value.ref es, Value.int (nI n), Value.int (nI sn), Value.int dn], cI aC ew 8 wf]) [1, 2] rfl
  have hDc := hD.sub (ws' := [cO xn 4 [Value.ref ek, Value.ref ef, Value.ref ew, Value.ref ep, Value.ref es, Value.int (nI n), Value.int (nI sn), Value.int dn], cI aC ew 8 wf]) [1, 2] (by decide) rfl
  have hFc := va_free (wc := [cO xn 4 [Value.ref ek, Value.ref ef, Value.ref ew, Value.ref ep, Value.ref es, Value.int (nI n), Value.int (nI sn), Value.int dn], cI aC ew 8 wf]) hD hS hA [1, 2] rfl
  refine va_calli (va_runV (As := [Value.int (nI sn)]) (rest := []) ⟨hx, hb, hml, hown, hts⟩ (c_X4_weightFrom l dC dI aC H.size xn ek ef ew ep es n (nI sn) dn wf W0 sn (hw) (sn_le hev)) ⟨(callB_of 1 hts (gG kw_465) rfl rfl rfl (hts _ (gw kw_2 rfl)) (hts _ (gw kw_665 rfl)) (by decide +kernel) ⟨Nat.le_of_ble_eq_true rfl, Nat.le_of_ble_eq_true rfl⟩), (hts _ (gw kw_463 rfl)), (hts _ (gw kw_464 rfl))⟩ ⟨fun a U g mk q => by obtain ⟨q0, q1, qP, qK, qD, qN⟩ := q; exact ⟨q0, q1, qP, va_K.moved (u := U) (U := U.calling g mk a) (Vm.Alike.refl U.vm) qK, qD, NX.same (u := U) (U := U.calling g mk a) rfl qN⟩, va_recv hK hPc (ci := 4) (q0 := 0) rfl rfl, fun U hU hW => ⟨rfl, by rw [hU], by rw [hU]; exact hPc, va_K.moved hW.alike hK, hDc.weaken (fun _ _ _ _ => trivial), NX.warm hW hN⟩⟩ rfl rfl hl.1 rfl (lv_room (Nat.le_of_ble_eq_true rfl)) dX11_chanceCarried_11 ⟨Nat.le_of_ble_eq_true rfl, Nat.le_of_ble_eq_true rfl⟩) hS (fun q _ h => hFc q h) hFc (fun x_1 u9 t9 H1 locs ht hvm hw_1 hB hz1 hk1 hS => ?_)
  obtain ⟨hP1, hK1, hD1⟩ := hB
  rw [ht] at hP1
  clear hK1
  try dsimp only at hw_1
  obtain ⟨hP, hD⟩ := va_join (wr := [cO h0 11 [Value.ref xp, Value.ref xtp, Value.ref xn, Value.ref xt, Value.ref xk, Value.ref xl, Value.ref xc, Value.ref xo, Value.ref xto, Value.ref xr, Value.ref xch, Value.int ts, Value.int ik, Value.int st], cI aC es 5 stf, cL aC xch 73 chf]) (w1 := [cO xn 4 [Value.ref ek, Value.ref ef, Value.ref ew, Value.ref ep, Value.ref es, Value.int (nI n), Value.int (nI sn), Value.int dn], cI aC ew 8 wf]) hP hD [1, 2] [0, 3, 4] rfl rfl (by decide) (by decide) hk1 hFc hP1 hD1
  generalize H1 = H at hP hS ⊢
  have hP : va_P (dC, dI) classes [cO h0 11 [Value.ref xp, Value.ref xtp, Value.ref xn, Value.ref xt, Value.ref xk, Value.ref xl, Value.ref xc, Value.ref xo, Value.ref xto, Value.ref xr, Value.ref xch, Value.int ts, Value.int ik, Value.int st], cI aC es 5 stf, cL aC xch 73 chf, cO xn 4 [Value.ref ek, Value.ref ef, Value.ref ew, Value.ref ep, Value.ref es, Value.int (nI n), Value.int (nI sn), Value.int dn], cI aC ew 8 wf] H := hP
  have hD : va_D A [cO h0 11 [Value.ref xp, Value.ref xtp, Value.ref xn, Value.ref xt, Value.ref xk, Value.ref xl, Value.ref xc, Value.ref xo, Value.ref xto, Value.ref xr, Value.ref xch, Value.int ts, Value.int ik, Value.int st], cI aC es 5 stf, cL aC xch 73 chf, cO xn 4 [Value.ref ek, Value.ref ef, Value.ref ew, Value.ref ep, Value.ref es, Value.int (nI n), Value.int (nI sn), Value.int dn], cI aC ew 8 wf] := hD
  clear hPc hDc hFc hz1 hk1 hP1 hD1 ht hvm
  have h9 : x_1 = nI (sumr W0 sn (n - sn)) := hw_1
  subst h9
  refine lv_istore_n (lv' := [(1, Value.int (nI (sumr W0 sn (n - sn)))), (0, Value.ref h0)]) hx hb dX11_chanceCarried_14 rfl hl (by decide) rfl (fun ls hl => ?_)
  refine lv_lconst (v := 0) hx hb dX11_chanceCarried_15 (by decide) ?_
  refine lv_lstore_n (lv' := [(2, Value.long 0), (1, Value.int (nI (sumr W0 sn (n - sn)))), (0, Value.ref h0)]) hx hb dX11_chanceCarried_16 rfl hl (by decide) rfl (fun ls hl => ?_)
  refine lv_iconst (v := 0) hx hb dX11_chanceCarried_17 (by decide) ?_
  refine lv_istore (lv' := [(4, Value.int 0), (2, Value.long 0), (1, Value.int (nI (sumr W0 sn (n - sn)))), (0, Value.ref h0)]) hx hb dX11_chanceCarried_18 hl (by decide) rfl (fun ls hl => ?_)
  have lp_20 : ∀ (fu : Nat) (k : Nat) (x2 : Int64) (hfu : 73 - k < fu) (hk : k ≤ 73) (H : Heap) (locs : List Loc) (ls : Array Slot), va_P (dC, dI) classes [cO h0 11 [Value.ref xp, Value.ref xtp, Value.ref xn, Value.ref xt, Value.ref xk, Value.ref xl, Value.ref xc, Value.ref xo, Value.ref xto, Value.ref xr, Value.ref xch, Value.int ts, Value.int ik, Value.int st], cI aC es 5 stf, cL aC xch 73 chf, cO xn 4 [Value.ref ek, Value.ref ef, Value.ref ew, Value.ref ep, Value.ref es, Value.int (nI n), Value.int (nI sn), Value.int dn], cI aC ew 8 wf] H → va_D A [cO h0 11 [Value.ref xp, Value.ref xtp, Value.ref xn, Value.ref xt, Value.ref xk, Value.ref xl, Value.ref xc, Value.ref xo, Value.ref xto, Value.ref xr, Value.ref xch, Value.int ts, Value.int ik, Value.int st], cI aC es 5 stf, cL aC xch 73 chf, cO xn 4 [Value.ref ek, Value.ref ef, Value.ref ew, Value.ref ep, Value.ref es, Value.int (nI n), Value.int (nI sn), Value.int dn], cI aC ew 8 wf] → va_S A s.heap H locs → lv_has ls 5 [(0, Value.ref h0), (1, Value.int (nI (sumr W0 sn (n - sn)))), (2, Value.long x2), (4, Value.int (nI k))] → W p l e (headSpec (wW yX11_chanceCarried cX11_chanceCarried 5 (some .long)) ({ frames := 2, cells := 0, slots := 0, locals := 36 } : Room)).room s m ([Value.ref h0] : List Value).toArray below meth c H locs 0 0 (MQ below (va_Ql (fun (r : Int64) (_ : Unit) => True) (fun (_ : Unit) (t : State) => va_P (dC, dI) classes [cO h0 11 [Value.ref xp, Value.ref xtp, Value.ref xn, Value.ref xt, Value.ref xk, Value.ref xl, Value.ref xc, Value.ref xo, Value.ref xto, Value.ref xr, Value.ref xch, Value.int ts, Value.int ik, Value.int st], cO xn 4 [Value.ref ek, Value.ref ef, Value.ref ew, Value.ref ep, Value.ref es, Value.int (nI n), Value.int (nI sn), Value.int dn], cI aC ew 8 wf, cI aC es 5 stf, cL aC xch 73 chf] t.heap ∧ va_K (dC, dI) classes (TY aC) t ∧ va_D A [cO h0 11 [Value.ref xp, Value.ref xtp, Value.ref xn, Value.ref xt, Value.ref xk, Value.ref xl, Value.ref xc, Value.ref xo, Value.ref xto, Value.ref xr, Value.ref xch, Value.int ts, Value.int ik, Value.int st], cO xn 4 [Value.ref ek, Value.ref ef, Value.ref ew, Value.ref ep, Value.ref es, Value.int (nI n), Value.int (nI sn), Value.int dn], cI aC ew 8 wf, cI aC es 5 stf, cL aC xch 73 chf]) A) ([Value.ref h0] : List Value).toArray s 0 0 A) (F0 m 20 ls []) := by
    intro fu
    induction fu with
    | zero => intro k x2 hfu; exact absurd hfu (Nat.not_lt_zero _)
    | succ fu ih_20 =>
      intro k x2 hfu hk H locs ls hP hD hS hl
      refine lv_iload hx hb dX11_chanceCarried_20 (lv_at hl 3 rfl) ?_
      refine lv_aload_n hx hb dX11_chanceCarried_22 rfl (lv_at hl 0 rfl) ?_
      refine va_get (D := (dC, dI)) (ci := 11) (v := Value.ref xch) (C := RX11) (T := TX11) (N := 14) hx hb hts inX11 hown hK hP 0 rfl rfl 10 (by decide) (hts _ (gw kw_236 rfl)) (fun _ h9 => h9) rfl dX11_chanceCarried_23 ?_
      refine va_alen (v := 73) hx hb hK hP 2 2 rfl rfl rfl dX11_chanceCarried_26 ?_
      refine lv_icmp_ge (tgt := 64) hx hb dX11_chanceCarried_27 (by decide) (fun c_2 => ?_) (fun c_2 => ?_)
      · refine lv_lload_n hx hb dX11_chanceCarried_64 rfl (lv_at hl 2 rfl) ?_
        have hP9 := hP.sub (ws' := [cO h0 11 [Value.ref xp, Value.ref xtp, Value.ref xn, Value.ref xt, Value.ref xk, Value.ref xl, Value.ref xc, Value.ref xo, Value.ref xto, Value.ref xr, Value.ref xch, Value.int ts, Value.int ik, Value.int st], cO xn 4 [Value.ref ek, Value.ref ef, Value.ref ew, Value.ref ep, Value.ref es, Value.int (nI n), Value.int (nI sn), Value.int dn], cI aC ew 8 wf, cI aC es 5 stf, cL aC xch 73 chf]) [0, 3, 4, 1, 2] rfl
        have hD9 := hD.sub (ws' := [cO h0 11 [Value.ref xp, Value.ref xtp, Value.ref xn, Value.ref xt, Value.ref xk, Value.ref xl, Value.ref xc, Value.ref xo, Value.ref xto, Value.ref xr, Value.ref xch, Value.int ts, Value.int ik, Value.int st], cO xn 4 [Value.ref ek, Value.ref ef, Value.ref ew, Value.ref ep, Value.ref es, Value.int (nI n), Value.int (nI sn), Value.int dn], cI aC ew 8 wf, cI aC es 5 stf, cL aC xch 73 chf]) [0, 3, 4, 1, 2] (by decide) rfl
        refine W.widen (k := 0) (n := 0) (by omega) (by omega) ?_
        exact W.lret (v := x2) hx hb hr (fun t ht hW => ⟨⟨x2, (), rfl, trivial, by rw [ht]; exact hP9, va_K.moved hW.alike hK, hD9⟩, hS.F ht⟩) hS.2.2 dX11_chanceCarried_65
      · have hlt : k < 73 := by
          rcases Nat.lt_or_ge k 73 with q | q
          · exact q
          · exact absurd (nI_le (a := 73) q (by omega)) c_2
        refine lv_aload_n hx hb dX11_chanceCarried_30 rfl (lv_at hl 0 rfl) ?_
        refine va_get (D := (dC, dI)) (ci := 11) (v := Value.ref xn) (C := RX11) (T := TX11) (N := 14) hx hb hts inX11 hown hK hP 0 rfl rfl 2 (by decide) (hts _ (gw kw_228 rfl)) (fun _ h9 => h9) rfl dX11_chanceCarried_31 ?_
        refine va_get (D := (dC, dI)) (ci := 4) (v := Value.ref es) (C := RX4) (T := TX4) (N := 8) hx hb hts inX4 hown hK hP 3 rfl rfl 4 (by decide) (hts _ (gw kw_45 rfl)) (fun _ h9 => h9) rfl dX11_chanceCarried_34 ?_
        refine lv_iconst (v := 1) hx hb dX11_chanceCarried_37 (by decide) ?_
        have h_3 : vp_in 1 5 := by unfold vp_in; decide
        refine va_iald hx hb hK hP 1 0 rfl rfl h_3 dX11_chanceCarried_38 ?_
        refine lv_topi (fun x_4 e_4 => ?_)
        refine lv_iload hx hb dX11_chanceCarried_39 (lv_at hl 3 rfl) ?_
        refine lv_iload_n hx hb dX11_chanceCarried_41 rfl (lv_at hl 1 rfl) ?_
        have hPc := hP.sub (ws' := []) [] rfl
        have hDc := hD.sub (ws' := []) [] (by decide) rfl
        have hFc := va_free (wc := []) hD hS hA [] rfl
        refine va_calli (va_runS (As := [Value.int x_4, Value.int (nI k), Value.int (nI (sumr W0 sn (n - sn)))]) (rest := []) ⟨hx, hb, hml, hown, hts⟩ (c_X11_isEnough l dC dI aC H.size x_4 k (sumr W0 sn (n - sn)) (by omega) (by omega)) ⟨(callB_of 3 hts (gG kw_469) rfl rfl rfl (hts _ (gw kw_1 rfl)) (hts _ (gw kw_666 rfl)) (by decide +kernel) ⟨Nat.le_of_ble_eq_true rfl, Nat.le_of_ble_eq_true rfl⟩), (hts _ (gw kw_468 rfl))⟩ ⟨fun a U g mk q => by obtain ⟨q0, q1, qP, qK, qD, qN⟩ := q; exact ⟨q0, q1, qP, va_K.moved (u := U) (U := U.calling g mk a) (Vm.Alike.refl U.vm) qK, qD, NX.same (u := U) (U := U.calling g mk a) rfl qN⟩, fun U hU hW => ⟨rfl, by rw [hU], by rw [hU]; exact hPc, va_K.moved hW.alike hK, hDc.weaken (fun _ _ _ _ => trivial), NX.warm hW hN⟩⟩ rfl rfl hl.1 rfl (lv_room (Nat.le_of_ble_eq_true rfl)) dX11_chanceCarried_42 ⟨Nat.le_of_ble_eq_true rfl, Nat.le_of_ble_eq_true rfl⟩) hS (fun q _ h => hFc q h) hFc (fun x_5 u9 t9 H1 locs ht hvm hw_5 hB hz1 hk1 hS => ?_)
        obtain ⟨hP1, hK1, hD1⟩ := hB
        rw [ht] at hP1
        clear hK1
        try dsimp only at hw_5
        obtain ⟨hP, hD⟩ := va_join (wr := [cO h0 11 [Value.ref xp, Value.ref xtp, Value.ref xn, Value.ref xt, Value.ref xk, Value.ref xl, Value.ref xc, Value.ref xo, Value.ref xto, Value.ref xr, Value.ref xch, Value.int ts, Value.int ik, Value.int st], cI aC es 5 stf, cL aC xch 73 chf, cO xn 4 [Value.ref ek, Value.ref ef, Value.ref ew, Value.ref ep, Value.ref es, Value.int (nI n), Value.int (nI sn), Value.int dn], cI aC ew 8 wf]) (w1 := []) hP hD [] [0, 1, 2, 3, 4] rfl rfl (by decide) (by decide) hk1 hFc hP1 hD1
        generalize H1 = H at hP hS ⊢
        have hP : va_P (dC, dI) classes [cO h0 11 [Value.ref xp, Value.ref xtp, Value.ref xn, Value.ref xt, Value.ref xk, Value.ref xl, Value.ref xc, Value.ref xo, Value.ref xto, Value.ref xr, Value.ref xch, Value.int ts, Value.int ik, Value.int st], cI aC es 5 stf, cL aC xch 73 chf, cO xn 4 [Value.ref ek, Value.ref ef, Value.ref ew, Value.ref ep, Value.ref es, Value.int (nI n), Value.int (nI sn), Value.int dn], cI aC ew 8 wf] H := hP
        have hD : va_D A [cO h0 11 [Value.ref xp, Value.ref xtp, Value.ref xn, Value.ref xt, Value.ref xk, Value.ref xl, Value.ref xc, Value.ref xo, Value.ref xto, Value.ref xr, Value.ref xch, Value.int ts, Value.int ik, Value.int st], cI aC es 5 stf, cL aC xch 73 chf, cO xn 4 [Value.ref ek, Value.ref ef, Value.ref ew, Value.ref ep, Value.ref es, Value.int (nI n), Value.int (nI sn), Value.int dn], cI aC ew 8 wf] := hD
        clear hPc hDc hFc hz1 hk1 hP1 hD1 ht hvm
        refine lv_if_eq (tgt := 58) hx hb dX11_chanceCarried_45 (by decide) (fun c_6 => ?_) (fun c_6 => ?_)
        · obtain ⟨x_7, e_7⟩ : ∃ y : Int32, y = (nI k) + 1 := ⟨_, rfl⟩
          refine lv_iinc (v := x_7) (lv' := [(4, Value.int x_7), (0, Value.ref h0), (1, Value.int (nI (sumr W0 sn (n - sn)))), (2, Value.long x2)]) hx hb dX11_chanceCarried_58 hl (k := 3) rfl (by rw [e_7]; rfl) (by decide) rfl (fun ls hl => ?_)
          have h9 : x_7 = nI (k + 1) := by rw [e_7, nI_1]
          subst h9
          refine lv_goto (tgt := 20) hx hb dX11_chanceCarried_61 (by decide) ?_
          exact ih_20 (k + 1) x2 (by omega) (by omega) _ _ _ (hP.sub [0, 1, 2, 3, 4] rfl) (hD.sub [0, 1, 2, 3, 4] (by decide) rfl) hS (lv_sub hl [1, 2, 3, 0] rfl)
        · refine lv_lload_n hx hb dX11_chanceCarried_48 rfl (lv_at hl 2 rfl) ?_
          refine lv_aload_n hx hb dX11_chanceCarried_49 rfl (lv_at hl 0 rfl) ?_
          refine va_get (D := (dC, dI)) (ci := 11) (v := Value.ref xch) (C := RX11) (T := TX11) (N := 14) hx hb hts inX11 hown hK hP 0 rfl rfl 10 (by decide) (hts _ (gw kw_236 rfl)) (fun _ h9 => h9) rfl dX11_chanceCarried_50 ?_
          refine lv_iload hx hb dX11_chanceCarried_53 (lv_at hl 3 rfl) ?_
          have h_8 : vp_in (nI k) 73 := vp_in_nI (by omega) (by omega)
          refine va_lald hx hb hK hP 2 2 rfl rfl h_8 dX11_chanceCarried_55 ?_
          refine lv_topl (fun x_9 e_9 => ?_)
          refine lv_ladd hx hb dX11_chanceCarried_56 ?_
          refine lv_topl (fun x_10 e_10 => ?_)
          refine lv_lstore_n (lv' := [(2, Value.long x_10), (0, Value.ref h0), (1, Value.int (nI (sumr W0 sn (n - sn)))), (4, Value.int (nI k))]) hx hb dX11_chanceCarried_57 rfl hl (by decide) rfl (fun ls hl => ?_)
          obtain ⟨x_11, e_11⟩ : ∃ y : Int32, y = (nI k) + 1 := ⟨_, rfl⟩
          refine lv_iinc (v := x_11) (lv' := [(4, Value.int x_11), (2, Value.long x_10), (0, Value.ref h0), (1, Value.int (nI (sumr W0 sn (n - sn))))]) hx hb dX11_chanceCarried_58 hl (k := 3) rfl (by rw [e_11]; rfl) (by decide) rfl (fun ls hl => ?_)
          have h9 : x_11 = nI (k + 1) := by rw [e_11, nI_1]
          subst h9
          refine lv_goto (tgt := 20) hx hb dX11_chanceCarried_61 (by decide) ?_
          exact ih_20 (k + 1) x_10 (by omega) (by omega) _ _ _ (hP.sub [0, 1, 2, 3, 4] rfl) (hD.sub [0, 1, 2, 3, 4] (by decide) rfl) hS (lv_sub hl [2, 3, 1, 0] rfl)
  exact lp_20 ((73 - 0) + 1) 0 0 (Nat.lt_succ_self _) (by omega) _ _ _ (hP.sub [0, 1, 2, 3, 4] rfl) (hD.sub [0, 1, 2, 3, 4] (by decide) rfl) hS (lv_sub hl [3, 2, 1, 0] rfl)

set_option maxHeartbeats 1000000 in
set_option maxRecDepth 100000 in
/-- X11_commonDivisor -/
theorem c_X11_commonDivisor (l : Launch) (dC : Nat → ClassId) (dI : Nat → Nat → Nat) (aC : Nat → ClassId) (sz : Nat) (a0 : Int64) (b0 : Int64)  : Met l yX11_commonDivisor (wW yX11_commonDivisor cX11_commonDivisor 11 (some .long)) ({ frames := 0, cells := 0, slots := 0, locals := 0 } : Room) (va_Pc [Value.long a0, Value.long b0] (fun U => U.heap.size = sz ∧ va_P (dC, dI) classes [] U.heap ∧ va_K (dC, dI) classes (TY aC) U ∧ va_D (fun _ => True) [] ∧ NX U)) (va_Ql (fun (r : Int64) (_ : Unit) => True) (fun (_ : Unit) (t : State) => va_P (dC, dI) classes [] t.heap ∧ va_K (dC, dI) classes (TY aC) t ∧ va_D (va_A [] sz) []) (va_A [] sz)) 0 0 (va_A [] sz) := by
  refine Met.ofW (cc := cX11_commonDivisor) (maxL := 11) (ret := (some .long)) (by decide) rfl ?_
  intro p e s m args below meth c s₁ B hml hv
  obtain ⟨rfl, hsz, hP, hK, hD0, hN⟩ := hv
  have hx := B.exec
  have hb := B.bytes
  have hr := B.returns
  have hts0 := atoms_spec (ws := (wW yX11_commonDivisor cX11_commonDivisor 11 (some .long))) B.pre
  have hts : ∀ w9 ∈ lw_G, w9.before ([Value.long a0, Value.long b0] : List Value).toArray s = true := fun w9 h9 => hts0 w9 (List.mem_cons_of_mem _ h9)
  have hown : s.vm.findClass RX11 = some m.cls := findClass_of_methodNamed B.named
  have hlocks := B.notSynchronized
  subst hsz
  have hD := hD0.self (sz := s.heap.size)
  generalize hAe : va_A [] s.heap.size = A at hD ⊢
  have hA : ∀ q : Nat, s.heap.size ≤ q → A q := fun q h => by rw [← hAe]; exact Or.inr h
  obtain ⟨H, hHe⟩ : ∃ H : Heap, H = s.heap := ⟨_, rfl⟩
  have hS : va_S A s.heap H [] := by rw [hHe]; exact va_S.rf
  have hP : va_P (dC, dI) classes [] H := by rw [hHe]; exact hP
  have hl := lv_entry ([Value.long a0, Value.long b0]) (n := 11) (Nat.le_of_ble_eq_true rfl)
  rw [lg_entry_eq]
  generalize (lg_sl ([Value.long a0, Value.long b0]) ++ List.replicate (11 - (lg_sl ([Value.long a0, Value.long b0])).length) Slot.unset).toArray = ls at hl ⊢
  have hl : lv_has ls 11 [(0, Value.long a0), (2, Value.long b0)] := hl
  rw [← hHe]
  refine lv_lload_n hx hb dX11_commonDivisor_0 rfl (lv_at hl 0 rfl) ?_
  refine lv_lstore (lv' := [(4, Value.long a0), (0, Value.long a0), (2, Value.long b0)]) hx hb dX11_commonDivisor_1 hl (by decide) rfl (fun ls hl => ?_)
  refine lv_lload_n hx hb dX11_commonDivisor_3 rfl (lv_at hl 2 rfl) ?_
  refine lv_lstore (lv' := [(6, Value.long b0), (4, Value.long a0), (0, Value.long a0), (2, Value.long b0)]) hx hb dX11_commonDivisor_4 hl (by decide) rfl (fun ls hl => ?_)
  refine lv_iconst (v := 0) hx hb dX11_commonDivisor_6 (by decide) ?_
  refine lv_istore (lv' := [(8, Value.int 0), (6, Value.long b0), (4, Value.long a0), (0, Value.long a0), (2, Value.long b0)]) hx hb dX11_commonDivisor_7 hl (by decide) rfl (fun ls hl => ?_)
  have lp_9 : ∀ (fu : Nat) (k : Nat) (xa : Int64) (xb : Int64) (hfu : 100 - k < fu) (hk : k ≤ 100) (H : Heap) (locs : List Loc) (ls : Array Slot), va_P (dC, dI) classes [] H → va_D A [] → va_S A s.heap H locs → lv_has ls 11 [(0, Value.long a0), (2, Value.long b0), (4, Value.long xa), (6, Value.long xb), (8, Value.int (nI k))] → W p l e (headSpec (wW yX11_commonDivisor cX11_commonDivisor 11 (some .long)) ({ frames := 0, cells := 0, slots := 0, locals := 0 } : Room)).room s m ([Value.long a0, Value.long b0] : List Value).toArray below meth c H locs 0 0 (MQ below (va_Ql (fun (r : Int64) (_ : Unit) => True) (fun (_ : Unit) (t : State) => va_P (dC, dI) classes [] t.heap ∧ va_K (dC, dI) classes (TY aC) t ∧ va_D A []) A) ([Value.long a0, Value.long b0] : List Value).toArray s 0 0 A) (F0 m 9 ls []) := by
    intro fu
    induction fu with
    | zero => intro k xa xb hfu; exact absurd hfu (Nat.not_lt_zero _)
    | succ fu ih_9 =>
      intro k xa xb hfu hk H locs ls hP hD hS hl
      refine lv_iload hx hb dX11_commonDivisor_9 (lv_at hl 4 rfl) ?_
      refine lv_bipush (v := 100) hx hb dX11_commonDivisor_11 (by decide) ?_
      refine lv_icmp_ge (tgt := 44) hx hb dX11_commonDivisor_13 (by decide) (fun c_1 => ?_) (fun c_1 => ?_)
      · refine lv_lload hx hb dX11_commonDivisor_44 (lv_at hl 2 rfl) ?_
        have hP9 := hP.sub (ws' := []) [] rfl
        have hD9 := hD.sub (ws' := []) [] (by decide) rfl
        refine W.widen (k := 0) (n := 0) (by omega) (by omega) ?_
        exact W.lret (v := xa) hx hb hr (fun t ht hW => ⟨⟨xa, (), rfl, trivial, by rw [ht]; exact hP9, va_K.moved hW.alike hK, hD9⟩, hS.F ht⟩) hS.2.2 dX11_commonDivisor_46
      · have hlt : k < 100 := by
          rcases Nat.lt_or_ge k 100 with q | q
          · exact q
          · exact absurd (nI_le (a := 100) q (by omega)) c_1
        refine lv_lload hx hb dX11_commonDivisor_16 (lv_at hl 3 rfl) ?_
        refine lv_lconst (v := 0) hx hb dX11_commonDivisor_18 (by decide) ?_
        refine W.lcmp hx hb dX11_commonDivisor_19 ?_
        refine lv_topi (fun x_2 e_2 => ?_)
        refine lv_if_eq (tgt := 44) hx hb dX11_commonDivisor_20 (by decide) (fun c_3 => ?_) (fun c_3 => ?_)
        · refine lv_lload hx hb dX11_commonDivisor_44 (lv_at hl 2 rfl) ?_
          have hP9 := hP.sub (ws' := []) [] rfl
          have hD9 := hD.sub (ws' := []) [] (by decide) rfl
          refine W.widen (k := 0) (n := 0) (by omega) (by omega) ?_
          exact W.lret (v := xa) hx hb hr (fun t ht hW => ⟨⟨xa, (), rfl, trivial, by rw [ht]; exact hP9, va_K.moved hW.alike hK, hD9⟩, hS.F ht⟩) hS.2.2 dX11_commonDivisor_46
        · refine lv_lload hx hb dX11_commonDivisor_23 (lv_at hl 2 rfl) ?_
          refine lv_lload hx hb dX11_commonDivisor_25 (lv_at hl 3 rfl) ?_
          refine lv_lrem hx hb dX11_commonDivisor_27 (lc_ne (by rw [← e_2]; exact c_3)) ?_
          refine lv_topl (fun x_4 e_4 => ?_)
          refine lv_lstore (lv' := [(9, Value.long x_4), (0, Value.long a0), (2, Value.long b0), (4, Value.long xa), (6, Value.long xb), (8, Value.int (nI k))]) hx hb dX11_commonDivisor_28 hl (by decide) rfl (fun ls hl => ?_)
          refine lv_lload hx hb dX11_commonDivisor_30 (lv_at hl 4 rfl) ?_
          refine lv_lstore (lv' := [(4, Value.long xb), (9, Value.long x_4), (0, Value.long a0), (2, Value.long b0), (6, Value.long xb), (8, Value.int (nI k))]) hx hb dX11_commonDivisor_32 hl (by decide) rfl (fun ls hl => ?_)
          refine lv_lload hx hb dX11_commonDivisor_34 (lv_at hl 1 rfl) ?_
          refine lv_lstore (lv' := [(6, Value.long x_4), (4, Value.long xb), (9, Value.long x_4), (0, Value.long a0), (2, Value.long b0), (8, Value.int (nI k))]) hx hb dX11_commonDivisor_36 hl (by decide) rfl (fun ls hl => ?_)
          obtain ⟨x_5, e_5⟩ : ∃ y : Int32, y = (nI k) + 1 := ⟨_, rfl⟩
          refine lv_iinc (v := x_5) (lv' := [(8, Value.int x_5), (6, Value.long x_4), (4, Value.long xb), (9, Value.long x_4), (0, Value.long a0), (2, Value.long b0)]) hx hb dX11_commonDivisor_38 hl (k := 5) rfl (by rw [e_5]; rfl) (by decide) rfl (fun ls hl => ?_)
          have h9 : x_5 = nI (k + 1) := by rw [e_5, nI_1]
          subst h9
          refine lv_goto (tgt := 9) hx hb dX11_commonDivisor_41 (by decide) ?_
          exact ih_9 (k + 1) xb x_4 (by omega) (by omega) _ _ _ (hP.sub [] rfl) (hD.sub [] (by decide) rfl) hS (lv_sub hl [4, 5, 2, 1, 0] rfl)
  exact lp_9 ((100 - 0) + 1) 0 a0 b0 (Nat.lt_succ_self _) (by omega) _ _ _ (hP.sub [] rfl) (hD.sub [] (by decide) rfl) hS (lv_sub hl [3, 4, 2, 1, 0] rfl)

set_option maxHeartbeats 1000000 in
set_option maxRecDepth 100000 in
/-- X11_shaken -/
theorem c_X11_shaken (l : Launch) (dC : Nat → ClassId) (dI : Nat → Nat → Nat) (aC : Nat → ClassId) (sz : Nat) (h0 : Nat) (xp : Nat) (xtp : Nat) (xn : Nat) (xt : Nat) (xk : Nat) (xl : Nat) (xc : Nat) (xo : Nat) (xto : Nat) (xr : Nat) (xch : Nat) (ts : Int32) (ik : Int32) (st : Int32) (po : Nat) (pp : Nat) (ps : Nat) (pa : Nat) (pe : Nat) (pb : Nat) (pk : Nat) (pu : Nat) (pw : Nat) (pq : Nat) (pt : Nat) (un : Int32) (fw : Int32) (ek : Nat) (ef : Nat) (ew : Nat) (ep : Nat) (es : Nat) (n : Nat) (sn : Nat) (dn : Int32) (kf : Nat → Int32) (ff : Nat → Int32) (wf : Nat → Int32) (stf : Nat → Int32) (K : Nat → Nat) (F : Nat → Nat) (W0 : Nat → Nat) (S5 : Nat → Nat) (L : List Nat) (g : Nat → Nat → Int32) (fo : Nat → Option Nat) (fp : Nat → Option Nat) (fs : Nat → Option Nat) (ro : Nat → Nat) (rp : Nat → Nat) (rs : Nat → Nat) (fk : Nat → Option Nat) (k0 : Nat) (k1 : Nat) (k2 : Nat) (k3 : Nat) (k4 : Nat) (k5 : Nat) (k6 : Nat) (uf : Nat → Int32) (vf : Nat → Int32) (qf : Nat → Int32) (tf : Nat → Int32) (bf : Nat → Int32) (yf : Nat → Int32) (ef0 : Nat → Int32) (rf : Nat → Int32) (chf : Nat → Int64) (a1 : Int32) (hgr : GRD L fo fp fs ro rp rs) (hev : EVS n sn dn K F W0 S5 kf ff wf stf) (hkd : KDS fk k0 k1 k2 k3 k4 k5 k6) (hst : STL st n (PO n K F W0 S5) ro rp rs g yf ef0 bf) : Met l yX11_shaken (wW yX11_shaken cX11_shaken 8 (some .long)) ({ frames := 7, cells := 0, slots := 0, locals := 151 } : Room) (va_Pc [Value.ref h0, Value.int a1] (fun U => U.heap.size = sz ∧ va_P (dC, dI) classes (wp [cO h0 11 [Value.ref xp, Value.ref xtp, Value.ref xn, Value.ref xt, Value.ref xk, Value.ref xl, Value.ref xc, Value.ref xo, Value.ref xto, Value.ref xr, Value.ref xch, Value.int ts, Value.int ik, Value.int st], cO xp 9 [Value.ref po, Value.ref pp, Value.ref ps, Value.ref pa, Value.ref pe, Value.ref pb, Value.ref xn, Value.ref pk, Value.ref pu, Value.ref pw, Value.ref pq, Value.ref pt, Value.int un, Value.int fw], cO xn 4 [Value.ref ek, Value.ref ef, Value.ref ew, Value.ref ep, Value.ref es, Value.int (nI n), Value.int (nI sn), Value.int dn], cI aC ek 8 kf, cI aC ef 8 ff, cI aC ew 8 wf, cI aC es 5 stf, cA aC po 8 fo, cA aC pp 8 fp, cA aC ps 8 fs, cK aC pk 7 fk, cO k0 0 [], cO k1 1 [], cO k2 3 [], cO k3 5 [], cO k4 6 [], cO k5 10 [], cO k6 8 [], cI aC pa 8 yf, cI aC pe 8 ef0, cI aC pb 8 bf, cI aC pu 7 uf, cI aC pw 7 vf, cI aC pq 128 qf, cI aC pt 128 tf, cI aC xr 7 rf, cL aC xch 73 chf] (va_pl L (plE aC g))) U.heap ∧ va_K (dC, dI) classes (TY aC) U ∧ va_D (fun _ => True) (wp [cO h0 11 [Value.ref xp, Value.ref xtp, Value.ref xn, Value.ref xt, Value.ref xk, Value.ref xl, Value.ref xc, Value.ref xo, Value.ref xto, Value.ref xr, Value.ref xch, Value.int ts, Value.int ik, Value.int st], cO xp 9 [Value.ref po, Value.ref pp, Value.ref ps, Value.ref pa, Value.ref pe, Value.ref pb, Value.ref xn, Value.ref pk, Value.ref pu, Value.ref pw, Value.ref pq, Value.ref pt, Value.int un, Value.int fw], cO xn 4 [Value.ref ek, Value.ref ef, Value.ref ew, Value.ref ep, Value.ref es, Value.int (nI n), Value.int (nI sn), Value.int dn], cI aC ek 8 kf, cI aC ef 8 ff, cI aC ew 8 wf, cI aC es 5 stf, cA aC po 8 fo, cA aC pp 8 fp, cA aC ps 8 fs, cK aC pk 7 fk, cO k0 0 [], cO k1 1 [], cO k2 3 [], cO k3 5 [], cO k4 6 [], cO k5 10 [], cO k6 8 [], cI aC pa 8 yf, cI aC pe 8 ef0, cI aC pb 8 bf, cI aC pu 7 uf, cI aC pw 7 vf, cI aC pq 128 qf, cI aC pt 128 tf, cI aC xr 7 rf, cL aC xch 73 chf] (va_pl L (plE aC g))) ∧ NX U)) (va_Ql (fun (r : Int64) (u : Int32 × Int32 × (Nat → Int32) × (Nat → Int32) × (Nat → Int32) × (Nat → Int32) × (Nat → Int32) × (Nat → Int32) × (Nat → Int32) × (Nat → Nat → Int32) × Int32 × (Nat → Int32) × (Nat → Int64)) => match u with | (un2, fw2, ug, vg, qg, tg, bg, yg, eg, g2, st2, rf2, chg) => STL st2 n (PO n K F W0 S5) ro rp rs g2 yg eg bg ∧ (∀ a, OFF ro rp rs a → g2 a = g a)) (fun (u : Int32 × Int32 × (Nat → Int32) × (Nat → Int32) × (Nat → Int32) × (Nat → Int32) × (Nat → Int32) × (Nat → Int32) × (Nat → Int32) × (Nat → Nat → Int32) × Int32 × (Nat → Int32) × (Nat → Int64)) (t : State) => match u with | (un2, fw2, ug, vg, qg, tg, bg, yg, eg, g2, st2, rf2, chg) => va_P (dC, dI) classes (wp [cO h0 11 [Value.ref xp, Value.ref xtp, Value.ref xn, Value.ref xt, Value.ref xk, Value.ref xl, Value.ref xc, Value.ref xo, Value.ref xto, Value.ref xr, Value.ref xch, Value.int ts, Value.int ik, Value.int st2], cO xp 9 [Value.ref po, Value.ref pp, Value.ref ps, Value.ref pa, Value.ref pe, Value.ref pb, Value.ref xn, Value.ref pk, Value.ref pu, Value.ref pw, Value.ref pq, Value.ref pt, Value.int un2, Value.int fw2], cO xn 4 [Value.ref ek, Value.ref ef, Value.ref ew, Value.ref ep, Value.ref es, Value.int (nI n), Value.int (nI sn), Value.int dn], cI aC ek 8 kf, cI aC ef 8 ff, cI aC ew 8 wf, cI aC es 5 stf, cA aC po 8 fo, cA aC pp 8 fp, cA aC ps 8 fs, cK aC pk 7 fk, cO k0 0 [], cO k1 1 [], cO k2 3 [], cO k3 5 [], cO k4 6 [], cO k5 10 [], cO k6 8 [], cI aC pa 8 yg, cI aC pe 8 eg, cI aC pb 8 bg, cI aC pu 7 ug, cI aC pw 7 vg, cI aC pq 128 qg, cI aC pt 128 tg, cI aC xr 7 rf2, cL aC xch 73 chg] (va_pl L (plE aC g2))) t.heap ∧ va_K (dC, dI) classes (TY aC) t ∧ va_D (va_A (wp [cO h0 11 [Value.ref xp, Value.ref xtp, Value.ref xn, Value.ref xt, Value.ref xk, Value.ref xl, Value.ref xc, Value.ref xo, Value.ref xto, Value.ref xr, Value.ref xch, Value.int ts, Value.int ik, Value.int st], cO xp 9 [Value.ref po, Value.ref pp, Value.ref ps, Value.ref pa, Value.ref pe, Value.ref pb, Value.ref xn, Value.ref pk, Value.ref pu, Value.ref pw, Value.ref pq, Value.ref pt, Value.int un, Value.int fw], cO xn 4 [Value.ref ek, Value.ref ef, Value.ref ew, Value.ref ep, Value.ref es, Value.int (nI n), Value.int (nI sn), Value.int dn], cI aC ek 8 kf, cI aC ef 8 ff, cI aC ew 8 wf, cI aC es 5 stf, cA aC po 8 fo, cA aC pp 8 fp, cA aC ps 8 fs, cK aC pk 7 fk, cO k0 0 [], cO k1 1 [], cO k2 3 [], cO k3 5 [], cO k4 6 [], cO k5 10 [], cO k6 8 [], cI aC pa 8 yf, cI aC pe 8 ef0, cI aC pb 8 bf, cI aC pu 7 uf, cI aC pw 7 vf, cI aC pq 128 qf, cI aC pt 128 tf, cI aC xr 7 rf, cL aC xch 73 chf] (va_pl L (plE aC g))) sz) (wp [cO h0 11 [Value.ref xp, Value.ref xtp, Value.ref xn, Value.ref xt, Value.ref xk, Value.ref xl, Value.ref xc, Value.ref xo, Value.ref xto, Value.ref xr, Value.ref xch, Value.int ts, Value.int ik, Value.int st2], cO xp 9 [Value.ref po, Value.ref pp, Value.ref ps, Value.ref pa, Value.ref pe, Value.ref pb, Value.ref xn, Value.ref pk, Value.ref pu, Value.ref pw, Value.ref pq, Value.ref pt, Value.int un2, Value.int fw2], cO xn 4 [Value.ref ek, Value.ref ef, Value.ref ew, Value.ref ep, Value.ref es, Value.int (nI n), Value.int (nI sn), Value.int dn], cI aC ek 8 kf, cI aC ef 8 ff, cI aC ew 8 wf, cI aC es 5 stf, cA aC po 8 fo, cA aC pp 8 fp, cA aC ps 8 fs, cK aC pk 7 fk, cO k0 0 [], cO k1 1 [], cO k2 3 [], cO k3 5 [], cO k4 6 [], cO k5 10 [], cO k6 8 [], cI aC pa 8 yg, cI aC pe 8 eg, cI aC pb 8 bg, cI aC pu 7 ug, cI aC pw 7 vg, cI aC pq 128 qg, cI aC pt 128 tg, cI aC xr 7 rf2, cL aC xch 73 chg] (va_pl L (plE aC g2)))) (va_A (wp [cO h0 11 [Value.ref xp, Value.ref xtp, Value.ref xn, Value.ref xt, Value.ref xk, Value.ref xl, Value.ref xc, Value.ref xo, Value.ref xto, Value.ref xr, Value.ref xch, Value.int ts, Value.int ik, Value.int st], cO xp 9 [Value.ref po, Value.ref pp, Value.ref ps, Value.ref pa, Value.ref pe, Value.ref pb, Value.ref xn, Value.ref pk, Value.ref pu, Value.ref pw, Value.ref pq, Value.ref pt, Value.int un, Value.int fw], cO xn 4 [Value.ref ek, Value.ref ef, Value.ref ew, Value.ref ep, Value.ref es, Value.int (nI n), Value.int (nI sn), Value.int dn], cI aC ek 8 kf, cI aC ef 8 ff, cI aC ew 8 wf, cI aC es 5 stf, cA aC po 8 fo, cA aC pp 8 fp, cA aC ps 8 fs, cK aC pk 7 fk, cO k0 0 [], cO k1 1 [], cO k2 3 [], cO k3 5 [], cO k4 6 [], cO k5 10 [], cO k6 8 [], cI aC pa 8 yf, cI aC pe 8 ef0, cI aC pb 8 bf, cI aC pu 7 uf, cI aC pw 7 vf, cI aC pq 128 qf, cI aC pt 128 tf, cI aC xr 7 rf, cL aC xch 73 chf] (va_pl L (plE aC g))) sz)) 0 0 (va_A (wp [cO h0 11 [Value.ref xp, Value.ref xtp, Value.ref xn, Value.ref xt, Value.ref xk, Value.ref xl, Value.ref xc, Value.ref xo, Value.ref xto, Value.ref xr, Value.ref xch, Value.int ts, Value.int ik, Value.int st], cO xp 9 [Value.ref po, Value.ref pp, Value.ref ps, Value.ref pa, Value.ref pe, Value.ref pb, Value.ref xn, Value.ref pk, Value.ref pu, Value.ref pw, Value.ref pq, Value.ref pt, Value.int un, Value.int fw], cO xn 4 [Value.ref ek, Value.ref ef, Value.ref ew, Value.ref ep, Value.ref es, Value.int (nI n), Value.int (nI sn), Value.int dn], cI aC ek 8 kf, cI aC ef 8 ff, cI aC ew 8 wf, cI aC es 5 stf, cA aC po 8 fo, cA aC pp 8 fp, cA aC ps 8 fs, cK aC pk 7 fk, cO k0 0 [], cO k1 1 [], cO k2 3 [], cO k3 5 [], cO k4 6 [], cO k5 10 [], cO k6 8 [], cI aC pa 8 yf, cI aC pe 8 ef0, cI aC pb 8 bf, cI aC pu 7 uf, cI aC pw 7 vf, cI aC pq 128 qf, cI aC pt 128 tf, cI aC xr 7 rf, cL aC xch 73 chf] (va_pl L (plE aC g))) sz) := by
  refine Met.ofW (cc := cX11_shaken) (maxL := 8) (ret := (some .long)) (by decide) rfl ?_
  intro p e s m args below meth c s₁ B hml hv
  obtain ⟨rfl, hsz, hP, hK, hD0, hN⟩ := hv
  have hx := B.exec
  have hb := B.bytes
  have hr := B.returns
  have hts0 := atoms_spec (ws := (wW yX11_shaken cX11_shaken 8 (some .long))) B.pre
  have hts : ∀ w9 ∈ lw_G, w9.before ([Value.ref h0, Value.int a1] : List Value).toArray s = true := fun w9 h9 => hts0 w9 (List.mem_cons_of_mem _ h9)
  have hown : s.vm.findClass RX11 = some m.cls := findClass_of_methodNamed B.named
  have hlocks := B.notSynchronized
  subst hsz
  have hD := hD0.self (sz := s.heap.size)
  generalize hAe : va_A (wp [cO h0 11 [Value.ref xp, Value.ref xtp, Value.ref xn, Value.ref xt, Value.ref xk, Value.ref xl, Value.ref xc, Value.ref xo, Value.ref xto, Value.ref xr, Value.ref xch, Value.int ts, Value.int ik, Value.int st], cO xp 9 [Value.ref po, Value.ref pp, Value.ref ps, Value.ref pa, Value.ref pe, Value.ref pb, Value.ref xn, Value.ref pk, Value.ref pu, Value.ref pw, Value.ref pq, Value.ref pt, Value.int un, Value.int fw], cO xn 4 [Value.ref ek, Value.ref ef, Value.ref ew, Value.ref ep, Value.ref es, Value.int (nI n), Value.int (nI sn), Value.int dn], cI aC ek 8 kf, cI aC ef 8 ff, cI aC ew 8 wf, cI aC es 5 stf, cA aC po 8 fo, cA aC pp 8 fp, cA aC ps 8 fs, cK aC pk 7 fk, cO k0 0 [], cO k1 1 [], cO k2 3 [], cO k3 5 [], cO k4 6 [], cO k5 10 [], cO k6 8 [], cI aC pa 8 yf, cI aC pe 8 ef0, cI aC pb 8 bf, cI aC pu 7 uf, cI aC pw 7 vf, cI aC pq 128 qf, cI aC pt 128 tf, cI aC xr 7 rf, cL aC xch 73 chf] (va_pl L (plE aC g))) s.heap.size = A at hD ⊢
  have hA : ∀ q : Nat, s.heap.size ≤ q → A q := fun q h => by rw [← hAe]; exact Or.inr h
  obtain ⟨H, hHe⟩ : ∃ H : Heap, H = s.heap := ⟨_, rfl⟩
  have hS : va_S A s.heap H [] := by rw [hHe]; exact va_S.rf
  have hP : va_P (dC, dI) classes (wp [cO h0 11 [Value.ref xp, Value.ref xtp, Value.ref xn, Value.ref xt, Value.ref xk, Value.ref xl, Value.ref xc, Value.ref xo, Value.ref xto, Value.ref xr, Value.ref xch, Value.int ts, Value.int ik, Value.int st], cO xp 9 [Value.ref po, Value.ref pp, Value.ref ps, Value.ref pa, Value.ref pe, Value.ref pb, Value.ref xn, Value.ref pk, Value.ref pu, Value.ref pw, Value.ref pq, Value.ref pt, Value.int un, Value.int fw], cO xn 4 [Value.ref ek, Value.ref ef, Value.ref ew, Value.ref ep, Value.ref es, Value.int (nI n), Value.int (nI sn), Value.int dn], cI aC ek 8 kf, cI aC ef 8 ff, cI aC ew 8 wf, cI aC es 5 stf, cA aC po 8 fo, cA aC pp 8 fp, cA aC ps 8 fs, cK aC pk 7 fk, cO k0 0 [], cO k1 1 [], cO k2 3 [], cO k3 5 [], cO k4 6 [], cO k5 10 [], cO k6 8 [], cI aC pa 8 yf, cI aC pe 8 ef0, cI aC pb 8 bf, cI aC pu 7 uf, cI aC pw 7 vf, cI aC pq 128 qf, cI aC pt 128 tf, cI aC xr 7 rf, cL aC xch 73 chf] (va_pl L (plE aC g))) H := by rw [hHe]; exact hP
  have hl := lv_entry ([Value.ref h0, Value.int a1]) (n := 8) (Nat.le_of_ble_eq_true rfl)
  rw [lg_entry_eq]
  generalize (lg_sl ([Value.ref h0, Value.int a1]) ++ List.replicate (8 - (lg_sl ([Value.ref h0, Value.int a1])).length) Slot.unset).toArray = ls at hl ⊢
  have hl : lv_has ls 8 [(0, Value.ref h0), (1, Value.int a1)] := hl
  rw [← hHe]
  have hn8 := EVS_n hev
  refine lv_iload_n hx hb dX11_shaken_0 rfl (lv_at hl 1 rfl) ?_
  refine lv_if_lt (tgt := 9) hx hb dX11_shaken_1 (by decide) (fun c_1 => ?_) (fun c_1 => ?_)
  · refine lv_ldc2 hx hb hown (hts _ (gw kw_648 rfl)) dX11_shaken_9 ?_
    refine lv_aload_n hx hb dX11_shaken_12 rfl (lv_at hl 0 rfl) ?_
    refine lv_bipush (v := -2) hx hb dX11_shaken_13 (by decide) ?_
    have hPc := hP.sub (ws' := [cO h0 11 [Value.ref xp, Value.ref xtp, Value.ref xn, Value.ref xt, Value.ref xk, Value.ref xl, Value.ref xc, Value.ref xo, Value.ref xto, Value.ref xr, Value.ref xch, Value.int ts, Value.int ik, Value.int st], cI aC xr 7 rf]) [0, 25] rfl
    have hDc := hD.sub (ws' := [cO h0 11 [Value.ref xp, Value.ref xtp, Value.ref xn, Value.ref xt, Value.ref xk, Value.ref xl, Value.ref xc, Value.ref xo, Value.ref xto, Value.ref xr, Value.ref xch, Value.int ts, Value.int ik, Value.int st], cI aC xr 7 rf]) [0, 25] (by decide) rfl
    have hFc := va_free (wc := [cO h0 11 [Value.ref xp, Value.ref xtp, Value.ref xn, Value.ref xt, Value.ref xk, Value.ref xl, Value.ref xc, Value.ref xo, Value.ref xto, Value.ref xr, Value.ref xch, Value.int ts, Value.int ik, Value.int st], cI aC xr 7 rf]) hD hS hA [0, 25] rfl
    refine va_calli (va_runV (As := [Value.int (-2)]) (rest := [Value.long 4000000000000000000]) ⟨hx, hb, hml, hown, hts⟩ (c_X11_refuse l dC dI aC H.size h0 xp xtp xn xt xk xl xc xo xto xr xch ts ik st (-2) 2 rf (by decide) (by decide) (by decide) (by unfold vp_in; decide)) ⟨(callB_of 1 hts (gG kw_276) rfl rfl rfl (hts _ (gw kw_1 rfl)) (hts _ (gw kw_273 rfl)) (by decide +kernel) ⟨Nat.le_of_ble_eq_true rfl, Nat.le_of_ble_eq_true rfl⟩), (hts _ (gw kw_275 rfl)), (hts _ (gw ks_0 rfl))⟩ ⟨fun a U g mk q => by obtain ⟨q0, q1, qP, qK, qD, qN⟩ := q; exact ⟨q0, q1, qP, va_K.moved (u := U) (U := U.calling g mk a) (Vm.Alike.refl U.vm) qK, qD, NX.same (u := U) (U := U.calling g mk a) rfl qN⟩, va_recv hK hPc (ci := 11) (q0 := 0) rfl rfl, fun U hU hW => ⟨rfl, by rw [hU], by rw [hU]; exact hPc, va_K.moved hW.alike hK, hDc.weaken (fun _ _ _ _ => trivial), NX.warm hW hN⟩⟩ rfl rfl hl.1 rfl (lv_room (Nat.le_of_ble_eq_true rfl)) dX11_shaken_15 ⟨Nat.le_of_ble_eq_true rfl, Nat.le_of_ble_eq_true rfl⟩) hS (fun q _ h => hFc q h) hFc (fun x_2 u9 t9 H1 locs ht hvm hw_2 hB hz1 hk1 hS => ?_)
    obtain ⟨u_3, rfl⟩ : ∃ z, z = u9 := ⟨_, rfl⟩
    obtain ⟨hP1, hK1, hD1⟩ := hB
    rw [ht] at hP1
    clear hK1
    try dsimp only at hw_2
    obtain ⟨hP, hD⟩ := va_joinQ (cx := [cO h0 11 [Value.ref xp, Value.ref xtp, Value.ref xn, Value.ref xt, Value.ref xk, Value.ref xl, Value.ref xc, Value.ref xo, Value.ref xto, Value.ref xr, Value.ref xch, Value.int ts, Value.int ik, Value.int st], cI aC xr 7 rf]) (wr := [cO xp 9 [Value.ref po, Value.ref pp, Value.ref ps, Value.ref pa, Value.ref pe, Value.ref pb, Value.ref xn, Value.ref pk, Value.ref pu, Value.ref pw, Value.ref pq, Value.ref pt, Value.int un, Value.int fw], cO xn 4 [Value.ref ek, Value.ref ef, Value.ref ew, Value.ref ep, Value.ref es, Value.int (nI n), Value.int (nI sn), Value.int dn], cI aC ek 8 kf, cI aC ef 8 ff, cI aC ew 8 wf, cI aC es 5 stf, cA aC po 8 fo, cA aC pp 8 fp, cA aC ps 8 fs, cK aC pk 7 fk, cO k0 0 [], cO k1 1 [], cO k2 3 [], cO k3 5 [], cO k4 6 [], cO k5 10 [], cO k6 8 [], cI aC pa 8 yf, cI aC pe 8 ef0, cI aC pb 8 bf, cI aC pu 7 uf, cI aC pw 7 vf, cI aC pq 128 qf, cI aC pt 128 tf, cL aC xch 73 chf]) (w1 := [cO h0 11 [Value.ref xp, Value.ref xtp, Value.ref xn, Value.ref xt, Value.ref xk, Value.ref xl, Value.ref xc, Value.ref xo, Value.ref xto, Value.ref xr, Value.ref xch, Value.int ts, Value.int ik, Value.int st], cI aC xr 7 u_3]) hP hD [0, 25] [1, 2, 3, 4, 5, 6, 7, 8, 9, 10, 11, 12, 13, 14, 15, 16, 17, 18, 19, 20, 21, 22, 23, 24, 26] rfl rfl (by decide) (by decide) hk1 hFc hP1 hD1
    generalize H1 = H at hP hS ⊢
    have hP : va_P (dC, dI) classes (wp [cO xp 9 [Value.ref po, Value.ref pp, Value.ref ps, Value.ref pa, Value.ref pe, Value.ref pb, Value.ref xn, Value.ref pk, Value.ref pu, Value.ref pw, Value.ref pq, Value.ref pt, Value.int un, Value.int fw], cO xn 4 [Value.ref ek, Value.ref ef, Value.ref ew, Value.ref ep, Value.ref es, Value.int (nI n), Value.int (nI sn), Value.int dn], cI aC ek 8 kf, cI aC ef 8 ff, cI aC ew 8 wf, cI aC es 5 stf, cA aC po 8 fo, cA aC pp 8 fp, cA aC ps 8 fs, cK aC pk 7 fk, cO k0 0 [], cO k1 1 [], cO k2 3 [], cO k3 5 [], cO k4 6 [], cO k5 10 [], cO k6 8 [], cI aC pa 8 yf, cI aC pe 8 ef0, cI aC pb 8 bf, cI aC pu 7 uf, cI aC pw 7 vf, cI aC pq 128 qf, cI aC pt 128 tf, cL aC xch 73 chf, cO h0 11 [Value.ref xp, Value.ref xtp, Value.ref xn, Value.ref xt, Value.ref xk, Value.ref xl, Value.ref xc, Value.ref xo, Value.ref xto, Value.ref xr, Value.ref xch, Value.int ts, Value.int ik, Value.int st], cI aC xr 7 u_3] (va_pl L (plE aC g))) H := hP
    have hD : va_D A (wp [cO xp 9 [Value.ref po, Value.ref pp, Value.ref ps, Value.ref pa, Value.ref pe, Value.ref pb, Value.ref xn, Value.ref pk, Value.ref pu, Value.ref pw, Value.ref pq, Value.ref pt, Value.int un, Value.int fw], cO xn 4 [Value.ref ek, Value.ref ef, Value.ref ew, Value.ref ep, Value.ref es, Value.int (nI n), Value.int (nI sn), Value.int dn], cI aC ek 8 kf, cI aC ef 8 ff, cI aC ew 8 wf, cI aC es 5 stf, cA aC po 8 fo, cA aC pp 8 fp, cA aC ps 8 fs, cK aC pk 7 fk, cO k0 0 [], cO k1 1 [], cO k2 3 [], cO k3 5 [], cO k4 6 [], cO k5 10 [], cO k6 8 [], cI aC pa 8 yf, cI aC pe 8 ef0, cI aC pb 8 bf, cI aC pu 7 uf, cI aC pw 7 vf, cI aC pq 128 qf, cI aC pt 128 tf, cL aC xch 73 chf, cO h0 11 [Value.ref xp, Value.ref xtp, Value.ref xn, Value.ref xt, Value.ref xk, Value.ref xl, Value.ref xc, Value.ref xo, Value.ref xto, Value.ref xr, Value.ref xch, Value.int ts, Value.int ik, Value.int st], cI aC xr 7 u_3] (va_pl L (plE aC g))) := hD
    clear hPc hDc hFc hz1 hk1 hP1 hD1 ht hvm
    obtain ⟨hv9, -⟩ := hw_2
    refine lv_i2l hx hb dX11_shaken_18 rfl ?_
    refine lv_topl (fun x_4 e_4 => ?_)
    refine lv_lsub hx hb dX11_shaken_19 ?_
    refine lv_topl (fun x_5 e_5 => ?_)
    have hP9 := plP (cx := [cO h0 11 [Value.ref xp, Value.ref xtp, Value.ref xn, Value.ref xt, Value.ref xk, Value.ref xl, Value.ref xc, Value.ref xo, Value.ref xto, Value.ref xr, Value.ref xch, Value.int ts, Value.int ik, Value.int st], cO xp 9 [Value.ref po, Value.ref pp, Value.ref ps, Value.ref pa, Value.ref pe, Value.ref pb, Value.ref xn, Value.ref pk, Value.ref pu, Value.ref pw, Value.ref pq, Value.ref pt, Value.int un, Value.int fw], cO xn 4 [Value.ref ek, Value.ref ef, Value.ref ew, Value.ref ep, Value.ref es, Value.int (nI n), Value.int (nI sn), Value.int dn], cI aC ek 8 kf, cI aC ef 8 ff, cI aC ew 8 wf, cI aC es 5 stf, cA aC po 8 fo, cA aC pp 8 fp, cA aC ps 8 fs, cK aC pk 7 fk, cO k0 0 [], cO k1 1 [], cO k2 3 [], cO k3 5 [], cO k4 6 [], cO k5 10 [], cO k6 8 [], cI aC pa 8 yf, cI aC pe 8 ef0, cI aC pb 8 bf, cI aC pu 7 uf, cI aC pw 7 vf, cI aC pq 128 qf, cI aC pt 128 tf, cI aC xr 7 u_3, cL aC xch 73 chf]) hP [25, 0, 1, 2, 3, 4, 5, 6, 7, 8, 9, 10, 11, 12, 13, 14, 15, 16, 17, 18, 19, 20, 21, 22, 23, 26, 24] rfl
    have hD9 := plD (cx := [cO h0 11 [Value.ref xp, Value.ref xtp, Value.ref xn, Value.ref xt, Value.ref xk, Value.ref xl, Value.ref xc, Value.ref xo, Value.ref xto, Value.ref xr, Value.ref xch, Value.int ts, Value.int ik, Value.int st], cO xp 9 [Value.ref po, Value.ref pp, Value.ref ps, Value.ref pa, Value.ref pe, Value.ref pb, Value.ref xn, Value.ref pk, Value.ref pu, Value.ref pw, Value.ref pq, Value.ref pt, Value.int un, Value.int fw], cO xn 4 [Value.ref ek, Value.ref ef, Value.ref ew, Value.ref ep, Value.ref es, Value.int (nI n), Value.int (nI sn), Value.int dn], cI aC ek 8 kf, cI aC ef 8 ff, cI aC ew 8 wf, cI aC es 5 stf, cA aC po 8 fo, cA aC pp 8 fp, cA aC ps 8 fs, cK aC pk 7 fk, cO k0 0 [], cO k1 1 [], cO k2 3 [], cO k3 5 [], cO k4 6 [], cO k5 10 [], cO k6 8 [], cI aC pa 8 yf, cI aC pe 8 ef0, cI aC pb 8 bf, cI aC pu 7 uf, cI aC pw 7 vf, cI aC pq 128 qf, cI aC pt 128 tf, cI aC xr 7 u_3, cL aC xch 73 chf]) hD [25, 0, 1, 2, 3, 4, 5, 6, 7, 8, 9, 10, 11, 12, 13, 14, 15, 16, 17, 18, 19, 20, 21, 22, 23, 26, 24] (by decide) rfl
    refine W.widen (k := 0) (n := 0) (by omega) (by omega) ?_
    exact W.lret (v := x_5) hx hb hr (fun t ht hW => ⟨⟨x_5, (un, fw, uf, vf, qf, tf, bf, yf, ef0, g, st, u_3, chf), rfl, ⟨hst, fun a _ => rfl⟩, by rw [ht]; exact hP9, va_K.moved hW.alike hK, hD9⟩, hS.F ht⟩) hS.2.2 dX11_shaken_20
  · refine lv_iload_n hx hb dX11_shaken_4 rfl (lv_at hl 1 rfl) ?_
    refine lv_iconst (v := 1) hx hb dX11_shaken_5 (by decide) ?_
    refine lv_icmp_le (tgt := 21) hx hb dX11_shaken_6 (by decide) (fun c_6 => ?_) (fun c_6 => ?_)
    · refine lv_aload_n hx hb dX11_shaken_21 rfl (lv_at hl 0 rfl) ?_
      refine va_get (D := (dC, dI)) (ci := 11) (v := Value.ref xn) (C := RX11) (T := TX11) (N := 14) hx hb hts inX11 hown hK hP 0 rfl rfl 2 (by decide) (hts _ (gw kw_228 rfl)) (fun _ h9 => h9) rfl dX11_shaken_22 ?_
      have hPc := hP.sub (ws' := [cO xn 4 [Value.ref ek, Value.ref ef, Value.ref ew, Value.ref ep, Value.ref es, Value.int (nI n), Value.int (nI sn), Value.int dn]]) [2] rfl
      have hDc := hD.sub (ws' := [cO xn 4 [Value.ref ek, Value.ref ef, Value.ref ew, Value.ref ep, Value.ref es, Value.int (nI n), Value.int (nI sn), Value.int dn]]) [2] (by decide) rfl
      have hFc := va_free (wc := [cO xn 4 [Value.ref ek, Value.ref ef, Value.ref ew, Value.ref ep, Value.ref es, Value.int (nI n), Value.int (nI sn), Value.int dn]]) hD hS hA [2] rfl
      refine va_calli (va_runV (As := []) (rest := []) ⟨hx, hb, hml, hown, hts⟩ (c_X4_isOver l dC dI aC H.size xn ek ef ew ep es (nI n) (nI sn) dn ) ⟨(callB_of 0 hts (gG kw_523) rfl rfl rfl (hts _ (gw kw_2 rfl)) (hts _ (gw kw_520 rfl)) (by decide +kernel) ⟨Nat.le_of_ble_eq_true rfl, Nat.le_of_ble_eq_true rfl⟩), (hts _ (gw kw_521 rfl)), (hts _ (gw kw_522 rfl))⟩ ⟨fun a U g mk q => by obtain ⟨q0, q1, qP, qK, qD, qN⟩ := q; exact ⟨q0, q1, qP, va_K.moved (u := U) (U := U.calling g mk a) (Vm.Alike.refl U.vm) qK, qD, NX.same (u := U) (U := U.calling g mk a) rfl qN⟩, va_recv hK hPc (ci := 4) (q0 := 0) rfl rfl, fun U hU hW => ⟨rfl, by rw [hU], by rw [hU]; exact hPc, va_K.moved hW.alike hK, hDc.weaken (fun _ _ _ _ => trivial), NX.warm hW hN⟩⟩ rfl rfl hl.1 rfl (lv_room (Nat.le_of_ble_eq_true rfl)) dX11_shaken_25 ⟨Nat.le_of_ble_eq_true rfl, Nat.le_of_ble_eq_true rfl⟩) hS (fun q _ h => hFc q h) hFc (fun x_7 u9 t9 H1 locs ht hvm hw_7 hB hz1 hk1 hS => ?_)
      obtain ⟨hP1, hK1, hD1⟩ := hB
      rw [ht] at hP1
      clear hK1
      try dsimp only at hw_7
      obtain ⟨hP, hD⟩ := va_joinQ (cx := [cO xn 4 [Value.ref ek, Value.ref ef, Value.ref ew, Value.ref ep, Value.ref es, Value.int (nI n), Value.int (nI sn), Value.int dn]]) (wr := [cO h0 11 [Value.ref xp, Value.ref xtp, Value.ref xn, Value.ref xt, Value.ref xk, Value.ref xl, Value.ref xc, Value.ref xo, Value.ref xto, Value.ref xr, Value.ref xch, Value.int ts, Value.int ik, Value.int st], cO xp 9 [Value.ref po, Value.ref pp, Value.ref ps, Value.ref pa, Value.ref pe, Value.ref pb, Value.ref xn, Value.ref pk, Value.ref pu, Value.ref pw, Value.ref pq, Value.ref pt, Value.int un, Value.int fw], cI aC ek 8 kf, cI aC ef 8 ff, cI aC ew 8 wf, cI aC es 5 stf, cA aC po 8 fo, cA aC pp 8 fp, cA aC ps 8 fs, cK aC pk 7 fk, cO k0 0 [], cO k1 1 [], cO k2 3 [], cO k3 5 [], cO k4 6 [], cO k5 10 [], cO k6 8 [], cI aC pa 8 yf, cI aC pe 8 ef0, cI aC pb 8 bf, cI aC pu 7 uf, cI aC pw 7 vf, cI aC pq 128 qf, cI aC pt 128 tf, cI aC xr 7 rf, cL aC xch 73 chf]) (w1 := [cO xn 4 [Value.ref ek, Value.ref ef, Value.ref ew, Value.ref ep, Value.ref es, Value.int (nI n), Value.int (nI sn), Value.int dn]]) hP hD [2] [0, 1, 3, 4, 5, 6, 7, 8, 9, 10, 11, 12, 13, 14, 15, 16, 17, 18, 19, 20, 21, 22, 23, 24, 25, 26] rfl rfl (by decide) (by decide) hk1 hFc hP1 hD1
      generalize H1 = H at hP hS ⊢
      have hP : va_P (dC, dI) classes (wp [cO h0 11 [Value.ref xp, Value.ref xtp, Value.ref xn, Value.ref xt, Value.ref xk, Value.ref xl, Value.ref xc, Value.ref xo, Value.ref xto, Value.ref xr, Value.ref xch, Value.int ts, Value.int ik, Value.int st], cO xp 9 [Value.ref po, Value.ref pp, Value.ref ps, Value.ref pa, Value.ref pe, Value.ref pb, Value.ref xn, Value.ref pk, Value.ref pu, Value.ref pw, Value.ref pq, Value.ref pt, Value.int un, Value.int fw], cI aC ek 8 kf, cI aC ef 8 ff, cI aC ew 8 wf, cI aC es 5 stf, cA aC po 8 fo, cA aC pp 8 fp, cA aC ps 8 fs, cK aC pk 7 fk, cO k0 0 [], cO k1 1 [], cO k2 3 [], cO k3 5 [], cO k4 6 [], cO k5 10 [], cO k6 8 [], cI aC pa 8 yf, cI aC pe 8 ef0, cI aC pb 8 bf, cI aC pu 7 uf, cI aC pw 7 vf, cI aC pq 128 qf, cI aC pt 128 tf, cI aC xr 7 rf, cL aC xch 73 chf, cO xn 4 [Value.ref ek, Value.ref ef, Value.ref ew, Value.ref ep, Value.ref es, Value.int (nI n), Value.int (nI sn), Value.int dn]] (va_pl L (plE aC g))) H := hP
      have hD : va_D A (wp [cO h0 11 [Value.ref xp, Value.ref xtp, Value.ref xn, Value.ref xt, Value.ref xk, Value.ref xl, Value.ref xc, Value.ref xo, Value.ref xto, Value.ref xr, Value.ref xch, Value.int ts, Value.int ik, Value.int st], cO xp 9 [Value.ref po, Value.ref pp, Value.ref ps, Value.ref pa, Value.ref pe, Value.ref pb, Value.ref xn, Value.ref pk, Value.ref pu, Value.ref pw, Value.ref pq, Value.ref pt, Value.int un, Value.int fw], cI aC ek 8 kf, cI aC ef 8 ff, cI aC ew 8 wf, cI aC es 5 stf, cA aC po 8 fo, cA aC pp 8 fp, cA aC ps 8 fs, cK aC pk 7 fk, cO k0 0 [], cO k1 1 [], cO k2 3 [], cO k3 5 [], cO k4 6 [], cO k5 10 [], cO k6 8 [], cI aC pa 8 yf, cI aC pe 8 ef0, cI aC pb 8 bf, cI aC pu 7 uf, cI aC pw 7 vf, cI aC pq 128 qf, cI aC pt 128 tf, cI aC xr 7 rf, cL aC xch 73 chf, cO xn 4 [Value.ref ek, Value.ref ef, Value.ref ew, Value.ref ep, Value.ref es, Value.int (nI n), Value.int (nI sn), Value.int dn]] (va_pl L (plE aC g))) := hD
      clear hPc hDc hFc hz1 hk1 hP1 hD1 ht hvm
      have hz_25 := hw_7
      refine lv_if_eq (tgt := 43) hx hb dX11_shaken_28 (by decide) (fun c_8 => ?_) (fun c_8 => ?_)
      · have hov := ovx_n hz_25 c_8
        have hsn := sn_lt hev hov
        refine lv_aload_n hx hb dX11_shaken_43 rfl (lv_at hl 0 rfl) ?_
        refine lv_aload_n hx hb dX11_shaken_44 rfl (lv_at hl 0 rfl) ?_
        have hPc := plP (cx := [cO h0 11 [Value.ref xp, Value.ref xtp, Value.ref xn, Value.ref xt, Value.ref xk, Value.ref xl, Value.ref xc, Value.ref xo, Value.ref xto, Value.ref xr, Value.ref xch, Value.int ts, Value.int ik, Value.int st], cO xp 9 [Value.ref po, Value.ref pp, Value.ref ps, Value.ref pa, Value.ref pe, Value.ref pb, Value.ref xn, Value.ref pk, Value.ref pu, Value.ref pw, Value.ref pq, Value.ref pt, Value.int un, Value.int fw], cO xn 4 [Value.ref ek, Value.ref ef, Value.ref ew, Value.ref ep, Value.ref es, Value.int (nI n), Value.int (nI sn), Value.int dn], cI aC ek 8 kf, cI aC ef 8 ff, cI aC ew 8 wf, cI aC es 5 stf, cA aC po 8 fo, cA aC pp 8 fp, cA aC ps 8 fs, cK aC pk 7 fk, cO k0 0 [], cO k1 1 [], cO k2 3 [], cO k3 5 [], cO k4 6 [], cO k5 10 [], cO k6 8 [], cI aC pa 8 yf, cI aC pe 8 ef0, cI aC pb 8 bf, cI aC pu 7 uf, cI aC pw 7 vf, cI aC pq 128 qf, cI aC pt 128 tf]) hP [0, 1, 26, 2, 3, 4, 5, 6, 7, 8, 9, 10, 11, 12, 13, 14, 15, 16, 17, 18, 19, 20, 21, 22, 23] rfl
        have hDc := plD (cx := [cO h0 11 [Value.ref xp, Value.ref xtp, Value.ref xn, Value.ref xt, Value.ref xk, Value.ref xl, Value.ref xc, Value.ref xo, Value.ref xto, Value.ref xr, Value.ref xch, Value.int ts, Value.int ik, Value.int st], cO xp 9 [Value.ref po, Value.ref pp, Value.ref ps, Value.ref pa, Value.ref pe, Value.ref pb, Value.ref xn, Value.ref pk, Value.ref pu, Value.ref pw, Value.ref pq, Value.ref pt, Value.int un, Value.int fw], cO xn 4 [Value.ref ek, Value.ref ef, Value.ref ew, Value.ref ep, Value.ref es, Value.int (nI n), Value.int (nI sn), Value.int dn], cI aC ek 8 kf, cI aC ef 8 ff, cI aC ew 8 wf, cI aC es 5 stf, cA aC po 8 fo, cA aC pp 8 fp, cA aC ps 8 fs, cK aC pk 7 fk, cO k0 0 [], cO k1 1 [], cO k2 3 [], cO k3 5 [], cO k4 6 [], cO k5 10 [], cO k6 8 [], cI aC pa 8 yf, cI aC pe 8 ef0, cI aC pb 8 bf, cI aC pu 7 uf, cI aC pw 7 vf, cI aC pq 128 qf, cI aC pt 128 tf]) hD [0, 1, 26, 2, 3, 4, 5, 6, 7, 8, 9, 10, 11, 12, 13, 14, 15, 16, 17, 18, 19, 20, 21, 22, 23] (by decide) rfl
        have hFc := plF (cx := [cO h0 11 [Value.ref xp, Value.ref xtp, Value.ref xn, Value.ref xt, Value.ref xk, Value.ref xl, Value.ref xc, Value.ref xo, Value.ref xto, Value.ref xr, Value.ref xch, Value.int ts, Value.int ik, Value.int st], cO xp 9 [Value.ref po, Value.ref pp, Value.ref ps, Value.ref pa, Value.ref pe, Value.ref pb, Value.ref xn, Value.ref pk, Value.ref pu, Value.ref pw, Value.ref pq, Value.ref pt, Value.int un, Value.int fw], cO xn 4 [Value.ref ek, Value.ref ef, Value.ref ew, Value.ref ep, Value.ref es, Value.int (nI n), Value.int (nI sn), Value.int dn], cI aC ek 8 kf, cI aC ef 8 ff, cI aC ew 8 wf, cI aC es 5 stf, cA aC po 8 fo, cA aC pp 8 fp, cA aC ps 8 fs, cK aC pk 7 fk, cO k0 0 [], cO k1 1 [], cO k2 3 [], cO k3 5 [], cO k4 6 [], cO k5 10 [], cO k6 8 [], cI aC pa 8 yf, cI aC pe 8 ef0, cI aC pb 8 bf, cI aC pu 7 uf, cI aC pw 7 vf, cI aC pq 128 qf, cI aC pt 128 tf]) hD hS hA [0, 1, 26, 2, 3, 4, 5, 6, 7, 8, 9, 10, 11, 12, 13, 14, 15, 16, 17, 18, 19, 20, 21, 22, 23] rfl
        refine va_callr (va_runV (As := []) (rest := [Value.ref h0]) ⟨hx, hb, hml, hown, hts⟩ (c_X11_solved l dC dI aC H.size h0 xp xtp xn xt xk xl xc xo xto xr xch ts ik st po pp ps pa pe pb pk pu pw pq pt un fw ek ef ew ep es n sn dn kf ff wf stf K F W0 S5 L g fo fp fs ro rp rs fk k0 k1 k2 k3 k4 k5 k6 uf vf qf tf bf yf ef0 (hgr) (hev) (hkd) (hst)) ⟨(callB_of 0 hts (gG kw_353) rfl rfl rfl (hts _ (gw kw_1 rfl)) (hts _ (gw kw_350 rfl)) (by decide +kernel) ⟨Nat.le_of_ble_eq_true rfl, Nat.le_of_ble_eq_true rfl⟩), (hts _ (gw kw_352 rfl)), (hts _ (gw ks_6 rfl))⟩ ⟨fun a U g mk q => by obtain ⟨q0, q1, qP, qK, qD, qN⟩ := q; exact ⟨q0, q1, qP, va_K.moved (u := U) (U := U.calling g mk a) (Vm.Alike.refl U.vm) qK, qD, NX.same (u := U) (U := U.calling g mk a) rfl qN⟩, va_recv hK hPc (ci := 11) (q0 := 0) rfl rfl, fun U hU hW => ⟨rfl, by rw [hU], by rw [hU]; exact hPc, va_K.moved hW.alike hK, hDc.weaken (fun _ _ _ _ => trivial), NX.warm hW hN⟩⟩ rfl rfl hl.1 rfl (lv_room (Nat.le_of_ble_eq_true rfl)) dX11_shaken_45 ⟨Nat.le_of_ble_eq_true rfl, Nat.le_of_ble_eq_true rfl⟩) hS (fun q _ h => hFc q h) hFc (fun u9 q_9 t9 H1 locs ht hvm hw_9 hB hz1 hk1 hS => ?_)
        obtain ⟨u_10, u_11, u_12, u_13, u_14, u_15, u_16, u_17, u_18, u_19⟩ := u9
        obtain ⟨q_9_e, hP1, hK1, hD1⟩ := hB
        rw [ht] at hP1
        clear hK1
        try dsimp only at hw_9
        obtain ⟨hP, hD⟩ := va_joinP (cx := [cO h0 11 [Value.ref xp, Value.ref xtp, Value.ref xn, Value.ref xt, Value.ref xk, Value.ref xl, Value.ref xc, Value.ref xo, Value.ref xto, Value.ref xr, Value.ref xch, Value.int ts, Value.int ik, Value.int st], cO xp 9 [Value.ref po, Value.ref pp, Value.ref ps, Value.ref pa, Value.ref pe, Value.ref pb, Value.ref xn, Value.ref pk, Value.ref pu, Value.ref pw, Value.ref pq, Value.ref pt, Value.int un, Value.int fw], cO xn 4 [Value.ref ek, Value.ref ef, Value.ref ew, Value.ref ep, Value.ref es, Value.int (nI n), Value.int (nI sn), Value.int dn], cI aC ek 8 kf, cI aC ef 8 ff, cI aC ew 8 wf, cI aC es 5 stf, cA aC po 8 fo, cA aC pp 8 fp, cA aC ps 8 fs, cK aC pk 7 fk, cO k0 0 [], cO k1 1 [], cO k2 3 [], cO k3 5 [], cO k4 6 [], cO k5 10 [], cO k6 8 [], cI aC pa 8 yf, cI aC pe 8 ef0, cI aC pb 8 bf, cI aC pu 7 uf, cI aC pw 7 vf, cI aC pq 128 qf, cI aC pt 128 tf]) (wr := [cI aC xr 7 rf, cL aC xch 73 chf]) (rx := [cO h0 11 [Value.ref xp, Value.ref xtp, Value.ref xn, Value.ref xt, Value.ref xk, Value.ref xl, Value.ref xc, Value.ref xo, Value.ref xto, Value.ref xr, Value.ref xch, Value.int ts, Value.int ik, Value.int 0], cO xp 9 [Value.ref po, Value.ref pp, Value.ref ps, Value.ref pa, Value.ref pe, Value.ref pb, Value.ref xn, Value.ref pk, Value.ref pu, Value.ref pw, Value.ref pq, Value.ref pt, Value.int u_10, Value.int u_11], cO xn 4 [Value.ref ek, Value.ref ef, Value.ref ew, Value.ref ep, Value.ref es, Value.int (nI n), Value.int (nI sn), Value.int dn], cI aC ek 8 kf, cI aC ef 8 ff, cI aC ew 8 wf, cI aC es 5 stf, cA aC po 8 fo, cA aC pp 8 fp, cA aC ps 8 fs, cK aC pk 7 fk, cO k0 0 [], cO k1 1 [], cO k2 3 [], cO k3 5 [], cO k4 6 [], cO k5 10 [], cO k6 8 [], cI aC pa 8 u_17, cI aC pe 8 u_18, cI aC pb 8 u_16, cI aC pu 7 u_12, cI aC pw 7 u_13, cI aC pq 128 u_14, cI aC pt 128 u_15]) hP hD [0, 1, 26, 2, 3, 4, 5, 6, 7, 8, 9, 10, 11, 12, 13, 14, 15, 16, 17, 18, 19, 20, 21, 22, 23] [24, 25] rfl rfl (by decide) (by decide) hk1 hFc hP1 hD1
        generalize H1 = H at hP hS ⊢
        have hP : va_P (dC, dI) classes (wp [cI aC xr 7 rf, cL aC xch 73 chf, cO h0 11 [Value.ref xp, Value.ref xtp, Value.ref xn, Value.ref xt, Value.ref xk, Value.ref xl, Value.ref xc, Value.ref xo, Value.ref xto, Value.ref xr, Value.ref xch, Value.int ts, Value.int ik, Value.int 0], cO xp 9 [Value.ref po, Value.ref pp, Value.ref ps, Value.ref pa, Value.ref pe, Value.ref pb, Value.ref xn, Value.ref pk, Value.ref pu, Value.ref pw, Value.ref pq, Value.ref pt, Value.int u_10, Value.int u_11], cO xn 4 [Value.ref ek, Value.ref ef, Value.ref ew, Value.ref ep, Value.ref es, Value.int (nI n), Value.int (nI sn), Value.int dn], cI aC ek 8 kf, cI aC ef 8 ff, cI aC ew 8 wf, cI aC es 5 stf, cA aC po 8 fo, cA aC pp 8 fp, cA aC ps 8 fs, cK aC pk 7 fk, cO k0 0 [], cO k1 1 [], cO k2 3 [], cO k3 5 [], cO k4 6 [], cO k5 10 [], cO k6 8 [], cI aC pa 8 u_17, cI aC pe 8 u_18, cI aC pb 8 u_16, cI aC pu 7 u_12, cI aC pw 7 u_13, cI aC pq 128 u_14, cI aC pt 128 u_15] (va_pl L (plE aC u_19))) H := hP
        have hD : va_D A (wp [cI aC xr 7 rf, cL aC xch 73 chf, cO h0 11 [Value.ref xp, Value.ref xtp, Value.ref xn, Value.ref xt, Value.ref xk, Value.ref xl, Value.ref xc, Value.ref xo, Value.ref xto, Value.ref xr, Value.ref xch, Value.int ts, Value.int ik, Value.int 0], cO xp 9 [Value.ref po, Value.ref pp, Value.ref ps, Value.ref pa, Value.ref pe, Value.ref pb, Value.ref xn, Value.ref pk, Value.ref pu, Value.ref pw, Value.ref pq, Value.ref pt, Value.int u_10, Value.int u_11], cO xn 4 [Value.ref ek, Value.ref ef, Value.ref ew, Value.ref ep, Value.ref es, Value.int (nI n), Value.int (nI sn), Value.int dn], cI aC ek 8 kf, cI aC ef 8 ff, cI aC ew 8 wf, cI aC es 5 stf, cA aC po 8 fo, cA aC pp 8 fp, cA aC ps 8 fs, cK aC pk 7 fk, cO k0 0 [], cO k1 1 [], cO k2 3 [], cO k3 5 [], cO k4 6 [], cO k5 10 [], cO k6 8 [], cI aC pa 8 u_17, cI aC pe 8 u_18, cI aC pb 8 u_16, cI aC pu 7 u_12, cI aC pw 7 u_13, cI aC pq 128 u_14, cI aC pt 128 u_15] (va_pl L (plE aC u_19))) := hD
        clear hPc hDc hFc hz1 hk1 hP1 hD1 ht hvm
        have h9 := q_9_e.symm
        subst h9
        obtain ⟨hm1, hm2⟩ := hw_9
        refine va_get (D := (dC, dI)) (ci := 9) (v := Value.ref pa) (C := RX9) (T := TX9) (N := 14) hx hb hts inX9 hown hK hP 3 rfl rfl 3 (by decide) (hts _ (gw kw_157 rfl)) (fun _ h9 => h9) rfl dX11_shaken_48 ?_
        refine lv_aload_n hx hb dX11_shaken_51 rfl (lv_at hl 0 rfl) ?_
        refine va_get (D := (dC, dI)) (ci := 11) (v := Value.ref xn) (C := RX11) (T := TX11) (N := 14) hx hb hts inX11 hown hK hP 2 rfl rfl 2 (by decide) (hts _ (gw kw_228 rfl)) (fun _ h9 => h9) rfl dX11_shaken_52 ?_
        refine va_get (D := (dC, dI)) (ci := 4) (v := Value.int (nI sn)) (C := RX4) (T := TX4) (N := 8) hx hb hts inX4 hown hK hP 4 rfl rfl 6 (by decide) (hts _ (gw kw_52 rfl)) (fun _ h9 => h9) rfl dX11_shaken_55 ?_
        have h_20 : vp_in (nI sn) 8 := by first | exact vp_in_nI (by omega) (by omega) | (unfold vp_in; decide) | (subst_vars; first | (unfold vp_in; decide) | exact vp_in_nI (by omega) (by omega))
        refine va_iald hx hb hK hP 20 0 rfl rfl h_20 dX11_shaken_58 ?_
        refine lv_topi (fun x_21 e_21 => ?_)
        have hPc := hP.sub (ws' := [cO h0 11 [Value.ref xp, Value.ref xtp, Value.ref xn, Value.ref xt, Value.ref xk, Value.ref xl, Value.ref xc, Value.ref xo, Value.ref xto, Value.ref xr, Value.ref xch, Value.int ts, Value.int ik, Value.int 0], cO xn 4 [Value.ref ek, Value.ref ef, Value.ref ew, Value.ref ep, Value.ref es, Value.int (nI n), Value.int (nI sn), Value.int dn], cI aC ew 8 wf, cI aC es 5 stf, cL aC xch 73 chf]) [2, 4, 7, 8, 1] rfl
        have hDc := hD.sub (ws' := [cO h0 11 [Value.ref xp, Value.ref xtp, Value.ref xn, Value.ref xt, Value.ref xk, Value.ref xl, Value.ref xc, Value.ref xo, Value.ref xto, Value.ref xr, Value.ref xch, Value.int ts, Value.int ik, Value.int 0], cO xn 4 [Value.ref ek, Value.ref ef, Value.ref ew, Value.ref ep, Value.ref es, Value.int (nI n), Value.int (nI sn), Value.int dn], cI aC ew 8 wf, cI aC es 5 stf, cL aC xch 73 chf]) [2, 4, 7, 8, 1] (by decide) rfl
        have hFc := va_free (wc := [cO h0 11 [Value.ref xp, Value.ref xtp, Value.ref xn, Value.ref xt, Value.ref xk, Value.ref xl, Value.ref xc, Value.ref xo, Value.ref xto, Value.ref xr, Value.ref xch, Value.int ts, Value.int ik, Value.int 0], cO xn 4 [Value.ref ek, Value.ref ef, Value.ref ew, Value.ref ep, Value.ref es, Value.int (nI n), Value.int (nI sn), Value.int dn], cI aC ew 8 wf, cI aC es 5 stf, cL aC xch 73 chf]) hD hS hA [2, 4, 7, 8, 1] rfl
        refine va_calll (va_runV (As := [Value.int x_21]) (rest := []) ⟨hx, hb, hml, hown, hts⟩ (c_X11_shakeVotes l dC dI aC H.size h0 xp xtp xn xt xk xl xc xo xto xr xch ts ik 0 ek ef ew ep es n sn dn kf ff wf stf K F W0 S5 chf x_21 (hev) (hsn)) ⟨(callB_of 1 hts (gG kw_652) rfl rfl rfl (hts _ (gw kw_1 rfl)) (hts _ (gw kw_649 rfl)) (by decide +kernel) ⟨Nat.le_of_ble_eq_true rfl, Nat.le_of_ble_eq_true rfl⟩), (hts _ (gw kw_651 rfl)), (hts _ (gw ks_29 rfl))⟩ ⟨fun a U g mk q => by obtain ⟨q0, q1, qP, qK, qD, qN⟩ := q; exact ⟨q0, q1, qP, va_K.moved (u := U) (U := U.calling g mk a) (Vm.Alike.refl U.vm) qK, qD, NX.same (u := U) (U := U.calling g mk a) rfl qN⟩, va_recv hK hPc (ci := 11) (q0 := 0) rfl rfl, fun U hU hW => ⟨rfl, by rw [hU], by rw [hU]; exact hPc, va_K.moved hW.alike hK, hDc.weaken (fun _ _ _ _ => trivial), NX.warm hW hN⟩⟩ rfl rfl hl.1 rfl (lv_room (Nat.le_of_ble_eq_true rfl)) dX11_shaken_59 ⟨Nat.le_of_ble_eq_true rfl, Nat.le_of_ble_eq_true rfl⟩) hS (fun q _ h => hFc q h) hFc (fun x_22 u9 t9 H1 locs ht hvm hw_22 hB hz1 hk1 hS => ?_)
        obtain ⟨u_23, rfl⟩ : ∃ z, z = u9 := ⟨_, rfl⟩
        obtain ⟨hP1, hK1, hD1⟩ := hB
        rw [ht] at hP1
        clear hK1
        try dsimp only at hw_22
        obtain ⟨hP, hD⟩ := va_joinQ (cx := [cO h0 11 [Value.ref xp, Value.ref xtp, Value.ref xn, Value.ref xt, Value.ref xk, Value.ref xl, Value.ref xc, Value.ref xo, Value.ref xto, Value.ref xr, Value.ref xch, Value.int ts, Value.int ik, Value.int 0], cO xn 4 [Value.ref ek, Value.ref ef, Value.ref ew, Value.ref ep, Value.ref es, Value.int (nI n), Value.int (nI sn), Value.int dn], cI aC ew 8 wf, cI aC es 5 stf, cL aC xch 73 chf]) (wr := [cI aC xr 7 rf, cO xp 9 [Value.ref po, Value.ref pp, Value.ref ps, Value.ref pa, Value.ref pe, Value.ref pb, Value.ref xn, Value.ref pk, Value.ref pu, Value.ref pw, Value.ref pq, Value.ref pt, Value.int u_10, Value.int u_11], cI aC ek 8 kf, cI aC ef 8 ff, cA aC po 8 fo, cA aC pp 8 fp, cA aC ps 8 fs, cK aC pk 7 fk, cO k0 0 [], cO k1 1 [], cO k2 3 [], cO k3 5 [], cO k4 6 [], cO k5 10 [], cO k6 8 [], cI aC pa 8 u_17, cI aC pe 8 u_18, cI aC pb 8 u_16, cI aC pu 7 u_12, cI aC pw 7 u_13, cI aC pq 128 u_14, cI aC pt 128 u_15]) (w1 := [cO h0 11 [Value.ref xp, Value.ref xtp, Value.ref xn, Value.ref xt, Value.ref xk, Value.ref xl, Value.ref xc, Value.ref xo, Value.ref xto, Value.ref xr, Value.ref xch, Value.int ts, Value.int ik, Value.int 0], cO xn 4 [Value.ref ek, Value.ref ef, Value.ref ew, Value.ref ep, Value.ref es, Value.int (nI n), Value.int (nI sn), Value.int dn], cI aC ew 8 wf, cI aC es 5 stf, cL aC xch 73 u_23]) hP hD [2, 4, 7, 8, 1] [0, 3, 5, 6, 9, 10, 11, 12, 13, 14, 15, 16, 17, 18, 19, 20, 21, 22, 23, 24, 25, 26] rfl rfl (by decide) (by decide) hk1 hFc hP1 hD1
        generalize H1 = H at hP hS ⊢
        have hP : va_P (dC, dI) classes (wp [cI aC xr 7 rf, cO xp 9 [Value.ref po, Value.ref pp, Value.ref ps, Value.ref pa, Value.ref pe, Value.ref pb, Value.ref xn, Value.ref pk, Value.ref pu, Value.ref pw, Value.ref pq, Value.ref pt, Value.int u_10, Value.int u_11], cI aC ek 8 kf, cI aC ef 8 ff, cA aC po 8 fo, cA aC pp 8 fp, cA aC ps 8 fs, cK aC pk 7 fk, cO k0 0 [], cO k1 1 [], cO k2 3 [], cO k3 5 [], cO k4 6 [], cO k5 10 [], cO k6 8 [], cI aC pa 8 u_17, cI aC pe 8 u_18, cI aC pb 8 u_16, cI aC pu 7 u_12, cI aC pw 7 u_13, cI aC pq 128 u_14, cI aC pt 128 u_15, cO h0 11 [Value.ref xp, Value.ref xtp, Value.ref xn, Value.ref xt, Value.ref xk, Value.ref xl, Value.ref xc, Value.ref xo, Value.ref xto, Value.ref xr, Value.ref xch, Value.int ts, Value.int ik, Value.int 0], cO xn 4 [Value.ref ek, Value.ref ef, Value.ref ew, Value.ref ep, Value.ref es, Value.int (nI n), Value.int (nI sn), Value.int dn], cI aC ew 8 wf, cI aC es 5 stf, cL aC xch 73 u_23] (va_pl L (plE aC u_19))) H := hP
        have hD : va_D A (wp [cI aC xr 7 rf, cO xp 9 [Value.ref po, Value.ref pp, Value.ref ps, Value.ref pa, Value.ref pe, Value.ref pb, Value.ref xn, Value.ref pk, Value.ref pu, Value.ref pw, Value.ref pq, Value.ref pt, Value.int u_10, Value.int u_11], cI aC ek 8 kf, cI aC ef 8 ff, cA aC po 8 fo, cA aC pp 8 fp, cA aC ps 8 fs, cK aC pk 7 fk, cO k0 0 [], cO k1 1 [], cO k2 3 [], cO k3 5 [], cO k4 6 [], cO k5 10 [], cO k6 8 [], cI aC pa 8 u_17, cI aC pe 8 u_18, cI aC pb 8 u_16, cI aC pu 7 u_12, cI aC pw 7 u_13, cI aC pq 128 u_14, cI aC pt 128 u_15, cO h0 11 [Value.ref xp, Value.ref xtp, Value.ref xn, Value.ref xt, Value.ref xk, Value.ref xl, Value.ref xc, Value.ref xo, Value.ref xto, Value.ref xr, Value.ref xch, Value.int ts, Value.int ik, Value.int 0], cO xn 4 [Value.ref ek, Value.ref ef, Value.ref ew, Value.ref ep, Value.ref es, Value.int (nI n), Value.int (nI sn), Value.int dn], cI aC ew 8 wf, cI aC es 5 stf, cL aC xch 73 u_23] (va_pl L (plE aC u_19))) := hD
        clear hPc hDc hFc hz1 hk1 hP1 hD1 ht hvm
        refine lv_lstore_n (lv' := [(2, Value.long x_22), (0, Value.ref h0), (1, Value.int a1)]) hx hb dX11_shaken_62 rfl hl (by decide) rfl (fun ls hl => ?_)
        refine lv_aload_n hx hb dX11_shaken_63 rfl (lv_at hl 1 rfl) ?_
        have hPc := hP.sub (ws' := [cO h0 11 [Value.ref xp, Value.ref xtp, Value.ref xn, Value.ref xt, Value.ref xk, Value.ref xl, Value.ref xc, Value.ref xo, Value.ref xto, Value.ref xr, Value.ref xch, Value.int ts, Value.int ik, Value.int 0], cO xn 4 [Value.ref ek, Value.ref ef, Value.ref ew, Value.ref ep, Value.ref es, Value.int (nI n), Value.int (nI sn), Value.int dn], cI aC ew 8 wf, cI aC es 5 stf, cL aC xch 73 u_23]) [22, 23, 24, 25, 26] rfl
        have hDc := hD.sub (ws' := [cO h0 11 [Value.ref xp, Value.ref xtp, Value.ref xn, Value.ref xt, Value.ref xk, Value.ref xl, Value.ref xc, Value.ref xo, Value.ref xto, Value.ref xr, Value.ref xch, Value.int ts, Value.int ik, Value.int 0], cO xn 4 [Value.ref ek, Value.ref ef, Value.ref ew, Value.ref ep, Value.ref es, Value.int (nI n), Value.int (nI sn), Value.int dn], cI aC ew 8 wf, cI aC es 5 stf, cL aC xch 73 u_23]) [22, 23, 24, 25, 26] (by decide) rfl
        have hFc := va_free (wc := [cO h0 11 [Value.ref xp, Value.ref xtp, Value.ref xn, Value.ref xt, Value.ref xk, Value.ref xl, Value.ref xc, Value.ref xo, Value.ref xto, Value.ref xr, Value.ref xch, Value.int ts, Value.int ik, Value.int 0], cO xn 4 [Value.ref ek, Value.ref ef, Value.ref ew, Value.ref ep, Value.ref es, Value.int (nI n), Value.int (nI sn), Value.int dn], cI aC ew 8 wf, cI aC es 5 stf, cL aC xch 73 u_23]) hD hS hA [22, 23, 24, 25, 26] rfl
        refine va_calll (va_runV (As := []) (rest := []) ⟨hx, hb, hml, hown, hts⟩ (c_X11_chanceCarried l dC dI aC H.size h0 xp xtp xn xt xk xl xc xo xto xr xch ts ik 0 ek ef ew ep es n sn dn kf ff wf stf K F W0 S5 u_23 (hev)) ⟨(callB_of 0 hts (gG kw_664) rfl rfl rfl (hts _ (gw kw_1 rfl)) (hts _ (gw kw_661 rfl)) (by decide +kernel) ⟨Nat.le_of_ble_eq_true rfl, Nat.le_of_ble_eq_true rfl⟩), (hts _ (gw kw_663 rfl)), (hts _ (gw ks_31 rfl))⟩ ⟨fun a U g mk q => by obtain ⟨q0, q1, qP, qK, qD, qN⟩ := q; exact ⟨q0, q1, qP, va_K.moved (u := U) (U := U.calling g mk a) (Vm.Alike.refl U.vm) qK, qD, NX.same (u := U) (U := U.calling g mk a) rfl qN⟩, va_recv hK hPc (ci := 11) (q0 := 0) rfl rfl, fun U hU hW => ⟨rfl, by rw [hU], by rw [hU]; exact hPc, va_K.moved hW.alike hK, hDc.weaken (fun _ _ _ _ => trivial), NX.warm hW hN⟩⟩ rfl rfl hl.1 rfl (lv_room (Nat.le_of_ble_eq_true rfl)) dX11_shaken_64 ⟨Nat.le_of_ble_eq_true rfl, Nat.le_of_ble_eq_true rfl⟩) hS (fun q _ h => hFc q h) hFc (fun x_24 u9 t9 H1 locs ht hvm hw_24 hB hz1 hk1 hS => ?_)
        obtain ⟨hP1, hK1, hD1⟩ := hB
        rw [ht] at hP1
        clear hK1
        try dsimp only at hw_24
        obtain ⟨hP, hD⟩ := va_joinQ (cx := [cO h0 11 [Value.ref xp, Value.ref xtp, Value.ref xn, Value.ref xt, Value.ref xk, Value.ref xl, Value.ref xc, Value.ref xo, Value.ref xto, Value.ref xr, Value.ref xch, Value.int ts, Value.int ik, Value.int 0], cO xn 4 [Value.ref ek, Value.ref ef, Value.ref ew, Value.ref ep, Value.ref es, Value.int (nI n), Value.int (nI sn), Value.int dn], cI aC ew 8 wf, cI aC es 5 stf, cL aC xch 73 u_23]) (wr := [cI aC xr 7 rf, cO xp 9 [Value.ref po, Value.ref pp, Value.ref ps, Value.ref pa, Value.ref pe, Value.ref pb, Value.ref xn, Value.ref pk, Value.ref pu, Value.ref pw, Value.ref pq, Value.ref pt, Value.int u_10, Value.int u_11], cI aC ek 8 kf, cI aC ef 8 ff, cA aC po 8 fo, cA aC pp 8 fp, cA aC ps 8 fs, cK aC pk 7 fk, cO k0 0 [], cO k1 1 [], cO k2 3 [], cO k3 5 [], cO k4 6 [], cO k5 10 [], cO k6 8 [], cI aC pa 8 u_17, cI aC pe 8 u_18, cI aC pb 8 u_16, cI aC pu 7 u_12, cI aC pw 7 u_13, cI aC pq 128 u_14, cI aC pt 128 u_15]) (w1 := [cO h0 11 [Value.ref xp, Value.ref xtp, Value.ref xn, Value.ref xt, Value.ref xk, Value.ref xl, Value.ref xc, Value.ref xo, Value.ref xto, Value.ref xr, Value.ref xch, Value.int ts, Value.int ik, Value.int 0], cO xn 4 [Value.ref ek, Value.ref ef, Value.ref ew, Value.ref ep, Value.ref es, Value.int (nI n), Value.int (nI sn), Value.int dn], cI aC ew 8 wf, cI aC es 5 stf, cL aC xch 73 u_23]) hP hD [22, 23, 24, 25, 26] [0, 1, 2, 3, 4, 5, 6, 7, 8, 9, 10, 11, 12, 13, 14, 15, 16, 17, 18, 19, 20, 21] rfl rfl (by decide) (by decide) hk1 hFc hP1 hD1
        generalize H1 = H at hP hS ⊢
        have hP : va_P (dC, dI) classes (wp [cI aC xr 7 rf, cO xp 9 [Value.ref po, Value.ref pp, Value.ref ps, Value.ref pa, Value.ref pe, Value.ref pb, Value.ref xn, Value.ref pk, Value.ref pu, Value.ref pw, Value.ref pq, Value.ref pt, Value.int u_10, Value.int u_11], cI aC ek 8 kf, cI aC ef 8 ff, cA aC po 8 fo, cA aC pp 8 fp, cA aC ps 8 fs, cK aC pk 7 fk, cO k0 0 [], cO k1 1 [], cO k2 3 [], cO k3 5 [], cO k4 6 [], cO k5 10 [], cO k6 8 [], cI aC pa 8 u_17, cI aC pe 8 u_18, cI aC pb 8 u_16, cI aC pu 7 u_12, cI aC pw 7 u_13, cI aC pq 128 u_14, cI aC pt 128 u_15, cO h0 11 [Value.ref xp, Value.ref xtp, Value.ref xn, Value.ref xt, Value.ref xk, Value.ref xl, Value.ref xc, Value.ref xo, Value.ref xto, Value.ref xr, Value.ref xch, Value.int ts, Value.int ik, Value.int 0], cO xn 4 [Value.ref ek, Value.ref ef, Value.ref ew, Value.ref ep, Value.ref es, Value.int (nI n), Value.int (nI sn), Value.int dn], cI aC ew 8 wf, cI aC es 5 stf, cL aC xch 73 u_23] (va_pl L (plE aC u_19))) H := hP
        have hD : va_D A (wp [cI aC xr 7 rf, cO xp 9 [Value.ref po, Value.ref pp, Value.ref ps, Value.ref pa, Value.ref pe, Value.ref pb, Value.ref xn, Value.ref pk, Value.ref pu, Value.ref pw, Value.ref pq, Value.ref pt, Value.int u_10, Value.int u_11], cI aC ek 8 kf, cI aC ef 8 ff, cA aC po 8 fo, cA aC pp 8 fp, cA aC ps 8 fs, cK aC pk 7 fk, cO k0 0 [], cO k1 1 [], cO k2 3 [], cO k3 5 [], cO k4 6 [], cO k5 10 [], cO k6 8 [], cI aC pa 8 u_17, cI aC pe 8 u_18, cI aC pb 8 u_16, cI aC pu 7 u_12, cI aC pw 7 u_13, cI aC pq 128 u_14, cI aC pt 128 u_15, cO h0 11 [Value.ref xp, Value.ref xtp, Value.ref xn, Value.ref xt, Value.ref xk, Value.ref xl, Value.ref xc, Value.ref xo, Value.ref xto, Value.ref xr, Value.ref xch, Value.int ts, Value.int ik, Value.int 0], cO xn 4 [Value.ref ek, Value.ref ef, Value.ref ew, Value.ref ep, Value.ref es, Value.int (nI n), Value.int (nI sn), Value.int dn], cI aC ew 8 wf, cI aC es 5 stf, cL aC xch 73 u_23] (va_pl L (plE aC u_19))) := hD
        clear hPc hDc hFc hz1 hk1 hP1 hD1 ht hvm
        refine lv_lstore (lv' := [(4, Value.long x_24), (2, Value.long x_22), (0, Value.ref h0), (1, Value.int a1)]) hx hb dX11_shaken_67 hl (by decide) rfl (fun ls hl => ?_)
        refine lv_lload hx hb dX11_shaken_69 (lv_at hl 0 rfl) ?_
        refine lv_lload_n hx hb dX11_shaken_71 rfl (lv_at hl 1 rfl) ?_
        have hPc := hP.sub (ws' := []) [] rfl
        have hDc := hD.sub (ws' := []) [] (by decide) rfl
        have hFc := va_free (wc := []) hD hS hA [] rfl
        refine va_calll (va_runS (As := [Value.long x_24, Value.long x_22]) (rest := []) ⟨hx, hb, hml, hown, hts⟩ (c_X11_commonDivisor l dC dI aC H.size x_24 x_22 ) ⟨(callB_of 2 hts (gG kw_669) rfl rfl rfl (hts _ (gw kw_1 rfl)) (hts _ (gw kw_667 rfl)) (by decide +kernel) ⟨Nat.le_of_ble_eq_true rfl, Nat.le_of_ble_eq_true rfl⟩), (hts _ (gw kw_668 rfl))⟩ ⟨fun a U g mk q => by obtain ⟨q0, q1, qP, qK, qD, qN⟩ := q; exact ⟨q0, q1, qP, va_K.moved (u := U) (U := U.calling g mk a) (Vm.Alike.refl U.vm) qK, qD, NX.same (u := U) (U := U.calling g mk a) rfl qN⟩, fun U hU hW => ⟨rfl, by rw [hU], by rw [hU]; exact hPc, va_K.moved hW.alike hK, hDc.weaken (fun _ _ _ _ => trivial), NX.warm hW hN⟩⟩ rfl rfl hl.1 rfl (lv_room (Nat.le_of_ble_eq_true rfl)) dX11_shaken_72 ⟨Nat.le_of_ble_eq_true rfl, Nat.le_of_ble_eq_true rfl⟩) hS (fun q _ h => hFc q h) hFc (fun x_25 u9 t9 H1 locs ht hvm hw_25 hB hz1 hk1 hS => ?_)
        obtain ⟨hP1, hK1, hD1⟩ := hB
        rw [ht] at hP1
        clear hK1
        try dsimp only at hw_25
        obtain ⟨hP, hD⟩ := va_joinQ (cx := []) (wr := [cI aC xr 7 rf, cO xp 9 [Value.ref po, Value.ref pp, Value.ref ps, Value.ref pa, Value.ref pe, Value.ref pb, Value.ref xn, Value.ref pk, Value.ref pu, Value.ref pw, Value.ref pq, Value.ref pt, Value.int u_10, Value.int u_11], cI aC ek 8 kf, cI aC ef 8 ff, cA aC po 8 fo, cA aC pp 8 fp, cA aC ps 8 fs, cK aC pk 7 fk, cO k0 0 [], cO k1 1 [], cO k2 3 [], cO k3 5 [], cO k4 6 [], cO k5 10 [], cO k6 8 [], cI aC pa 8 u_17, cI aC pe 8 u_18, cI aC pb 8 u_16, cI aC pu 7 u_12, cI aC pw 7 u_13, cI aC pq 128 u_14, cI aC pt 128 u_15, cO h0 11 [Value.ref xp, Value.ref xtp, Value.ref xn, Value.ref xt, Value.ref xk, Value.ref xl, Value.ref xc, Value.ref xo, Value.ref xto, Value.ref xr, Value.ref xch, Value.int ts, Value.int ik, Value.int 0], cO xn 4 [Value.ref ek, Value.ref ef, Value.ref ew, Value.ref ep, Value.ref es, Value.int (nI n), Value.int (nI sn), Value.int dn], cI aC ew 8 wf, cI aC es 5 stf, cL aC xch 73 u_23]) (w1 := []) hP hD [] [0, 1, 2, 3, 4, 5, 6, 7, 8, 9, 10, 11, 12, 13, 14, 15, 16, 17, 18, 19, 20, 21, 22, 23, 24, 25, 26] rfl rfl (by decide) (by decide) hk1 hFc hP1 hD1
        generalize H1 = H at hP hS ⊢
        have hP : va_P (dC, dI) classes (wp [cI aC xr 7 rf, cO xp 9 [Value.ref po, Value.ref pp, Value.ref ps, Value.ref pa, Value.ref pe, Value.ref pb, Value.ref xn, Value.ref pk, Value.ref pu, Value.ref pw, Value.ref pq, Value.ref pt, Value.int u_10, Value.int u_11], cI aC ek 8 kf, cI aC ef 8 ff, cA aC po 8 fo, cA aC pp 8 fp, cA aC ps 8 fs, cK aC pk 7 fk, cO k0 0 [], cO k1 1 [], cO k2 3 [], cO k3 5 [], cO k4 6 [], cO k5 10 [], cO k6 8 [], cI aC pa 8 u_17, cI aC pe 8 u_18, cI aC pb 8 u_16, cI aC pu 7 u_12, cI aC pw 7 u_13, cI aC pq 128 u_14, cI aC pt 128 u_15, cO h0 11 [Value.ref xp, Value.ref xtp, Value.ref xn, Value.ref xt, Value.ref xk, Value.ref xl, Value.ref xc, Value.ref xo, Value.ref xto, Value.ref xr, Value.ref xch, Value.int ts, Value.int ik, Value.int 0], cO xn 4 [Value.ref ek, Value.ref ef, Value.ref ew, Value.ref ep, Value.ref es, Value.int (nI n), Value.int (nI sn), Value.int dn], cI aC ew 8 wf, cI aC es 5 stf, cL aC xch 73 u_23] (va_pl L (plE aC u_19))) H := hP
        have hD : va_D A (wp [cI aC xr 7 rf, cO xp 9 [Value.ref po, Value.ref pp, Value.ref ps, Value.ref pa, Value.ref pe, Value.ref pb, Value.ref xn, Value.ref pk, Value.ref pu, Value.ref pw, Value.ref pq, Value.ref pt, Value.int u_10, Value.int u_11], cI aC ek 8 kf, cI aC ef 8 ff, cA aC po 8 fo, cA aC pp 8 fp, cA aC ps 8 fs, cK aC pk 7 fk, cO k0 0 [], cO k1 1 [], cO k2 3 [], cO k3 5 [], cO k4 6 [], cO k5 10 [], cO k6 8 [], cI aC pa 8 u_17, cI aC pe 8 u_18, cI aC pb 8 u_16, cI aC pu 7 u_12, cI aC pw 7 u_13, cI aC pq 128 u_14, cI aC pt 128 u_15, cO h0 11 [Value.ref xp, Value.ref xtp, Value.ref xn, Value.ref xt, Value.ref xk, Value.ref xl, Value.ref xc, Value.ref xo, Value.ref xto, Value.ref xr, Value.ref xch, Value.int ts, Value.int ik, Value.int 0], cO xn 4 [Value.ref ek, Value.ref ef, Value.ref ew, Value.ref ep, Value.ref es, Value.int (nI n), Value.int (nI sn), Value.int dn], cI aC ew 8 wf, cI aC es 5 stf, cL aC xch 73 u_23] (va_pl L (plE aC u_19))) := hD
        clear hPc hDc hFc hz1 hk1 hP1 hD1 ht hvm
        refine lv_lstore (lv' := [(6, Value.long x_25), (4, Value.long x_24), (2, Value.long x_22), (0, Value.ref h0), (1, Value.int a1)]) hx hb dX11_shaken_75 hl (by decide) rfl (fun ls hl => ?_)
        refine lv_lload hx hb dX11_shaken_77 (lv_at hl 0 rfl) ?_
        refine lv_lconst (v := 0) hx hb dX11_shaken_79 (by decide) ?_
        refine W.lcmp hx hb dX11_shaken_80 ?_
        refine lv_topi (fun x_26 e_26 => ?_)
        refine lv_if_gt (tgt := 86) hx hb dX11_shaken_81 (by decide) (fun c_27 => ?_) (fun c_27 => ?_)
        · have hc0 : ¬ x_25 = 0 := lc_gt (by rw [← e_26]; exact c_27)
          refine lv_iload_n hx hb dX11_shaken_86 rfl (lv_at hl 4 rfl) ?_
          refine lv_if_ne (tgt := 95) hx hb dX11_shaken_87 (by decide) (fun c_28 => ?_) (fun c_28 => ?_)
          · refine lv_lload_n hx hb dX11_shaken_95 rfl (lv_at hl 2 rfl) ?_
            refine lv_lload hx hb dX11_shaken_96 (lv_at hl 0 rfl) ?_
            refine lv_ldiv hx hb dX11_shaken_98 (hc0) ?_
            refine lv_topl (fun x_29 e_29 => ?_)
            have hP9 := plP (cx := [cO h0 11 [Value.ref xp, Value.ref xtp, Value.ref xn, Value.ref xt, Value.ref xk, Value.ref xl, Value.ref xc, Value.ref xo, Value.ref xto, Value.ref xr, Value.ref xch, Value.int ts, Value.int ik, Value.int 0], cO xp 9 [Value.ref po, Value.ref pp, Value.ref ps, Value.ref pa, Value.ref pe, Value.ref pb, Value.ref xn, Value.ref pk, Value.ref pu, Value.ref pw, Value.ref pq, Value.ref pt, Value.int u_10, Value.int u_11], cO xn 4 [Value.ref ek, Value.ref ef, Value.ref ew, Value.ref ep, Value.ref es, Value.int (nI n), Value.int (nI sn), Value.int dn], cI aC ek 8 kf, cI aC ef 8 ff, cI aC ew 8 wf, cI aC es 5 stf, cA aC po 8 fo, cA aC pp 8 fp, cA aC ps 8 fs, cK aC pk 7 fk, cO k0 0 [], cO k1 1 [], cO k2 3 [], cO k3 5 [], cO k4 6 [], cO k5 10 [], cO k6 8 [], cI aC pa 8 u_17, cI aC pe 8 u_18, cI aC pb 8 u_16, cI aC pu 7 u_12, cI aC pw 7 u_13, cI aC pq 128 u_14, cI aC pt 128 u_15, cI aC xr 7 rf, cL aC xch 73 u_23]) hP [22, 1, 23, 2, 3, 24, 25, 4, 5, 6, 7, 8, 9, 10, 11, 12, 13, 14, 15, 16, 17, 18, 19, 20, 21, 0, 26] rfl
            have hD9 := plD (cx := [cO h0 11 [Value.ref xp, Value.ref xtp, Value.ref xn, Value.ref xt, Value.ref xk, Value.ref xl, Value.ref xc, Value.ref xo, Value.ref xto, Value.ref xr, Value.ref xch, Value.int ts, Value.int ik, Value.int 0], cO xp 9 [Value.ref po, Value.ref pp, Value.ref ps, Value.ref pa, Value.ref pe, Value.ref pb, Value.ref xn, Value.ref pk, Value.ref pu, Value.ref pw, Value.ref pq, Value.ref pt, Value.int u_10, Value.int u_11], cO xn 4 [Value.ref ek, Value.ref ef, Value.ref ew, Value.ref ep, Value.ref es, Value.int (nI n), Value.int (nI sn), Value.int dn], cI aC ek 8 kf, cI aC ef 8 ff, cI aC ew 8 wf, cI aC es 5 stf, cA aC po 8 fo, cA aC pp 8 fp, cA aC ps 8 fs, cK aC pk 7 fk, cO k0 0 [], cO k1 1 [], cO k2 3 [], cO k3 5 [], cO k4 6 [], cO k5 10 [], cO k6 8 [], cI aC pa 8 u_17, cI aC pe 8 u_18, cI aC pb 8 u_16, cI aC pu 7 u_12, cI aC pw 7 u_13, cI aC pq 128 u_14, cI aC pt 128 u_15, cI aC xr 7 rf, cL aC xch 73 u_23]) hD [22, 1, 23, 2, 3, 24, 25, 4, 5, 6, 7, 8, 9, 10, 11, 12, 13, 14, 15, 16, 17, 18, 19, 20, 21, 0, 26] (by decide) rfl
            refine W.widen (k := 0) (n := 0) (by omega) (by omega) ?_
            exact W.lret (v := x_29) hx hb hr (fun t ht hW => ⟨⟨x_29, (u_10, u_11, u_12, u_13, u_14, u_15, u_16, u_17, u_18, u_19, 0, rf, u_23), rfl, ⟨Or.inr ⟨rfl, hm1⟩, hm2⟩, by rw [ht]; exact hP9, va_K.moved hW.alike hK, hD9⟩, hS.F ht⟩) hS.2.2 dX11_shaken_99
          · refine lv_lload hx hb dX11_shaken_90 (lv_at hl 1 rfl) ?_
            refine lv_goto (tgt := 96) hx hb dX11_shaken_92 (by decide) ?_
            refine lv_lload hx hb dX11_shaken_96 (lv_at hl 0 rfl) ?_
            refine lv_ldiv hx hb dX11_shaken_98 (hc0) ?_
            refine lv_topl (fun x_30 e_30 => ?_)
            have hP9 := plP (cx := [cO h0 11 [Value.ref xp, Value.ref xtp, Value.ref xn, Value.ref xt, Value.ref xk, Value.ref xl, Value.ref xc, Value.ref xo, Value.ref xto, Value.ref xr, Value.ref xch, Value.int ts, Value.int ik, Value.int 0], cO xp 9 [Value.ref po, Value.ref pp, Value.ref ps, Value.ref pa, Value.ref pe, Value.ref pb, Value.ref xn, Value.ref pk, Value.ref pu, Value.ref pw, Value.ref pq, Value.ref pt, Value.int u_10, Value.int u_11], cO xn 4 [Value.ref ek, Value.ref ef, Value.ref ew, Value.ref ep, Value.ref es, Value.int (nI n), Value.int (nI sn), Value.int dn], cI aC ek 8 kf, cI aC ef 8 ff, cI aC ew 8 wf, cI aC es 5 stf, cA aC po 8 fo, cA aC pp 8 fp, cA aC ps 8 fs, cK aC pk 7 fk, cO k0 0 [], cO k1 1 [], cO k2 3 [], cO k3 5 [], cO k4 6 [], cO k5 10 [], cO k6 8 [], cI aC pa 8 u_17, cI aC pe 8 u_18, cI aC pb 8 u_16, cI aC pu 7 u_12, cI aC pw 7 u_13, cI aC pq 128 u_14, cI aC pt 128 u_15, cI aC xr 7 rf, cL aC xch 73 u_23]) hP [22, 1, 23, 2, 3, 24, 25, 4, 5, 6, 7, 8, 9, 10, 11, 12, 13, 14, 15, 16, 17, 18, 19, 20, 21, 0, 26] rfl
            have hD9 := plD (cx := [cO h0 11 [Value.ref xp, Value.ref xtp, Value.ref xn, Value.ref xt, Value.ref xk, Value.ref xl, Value.ref xc, Value.ref xo, Value.ref xto, Value.ref xr, Value.ref xch, Value.int ts, Value.int ik, Value.int 0], cO xp 9 [Value.ref po, Value.ref pp, Value.ref ps, Value.ref pa, Value.ref pe, Value.ref pb, Value.ref xn, Value.ref pk, Value.ref pu, Value.ref pw, Value.ref pq, Value.ref pt, Value.int u_10, Value.int u_11], cO xn 4 [Value.ref ek, Value.ref ef, Value.ref ew, Value.ref ep, Value.ref es, Value.int (nI n), Value.int (nI sn), Value.int dn], cI aC ek 8 kf, cI aC ef 8 ff, cI aC ew 8 wf, cI aC es 5 stf, cA aC po 8 fo, cA aC pp 8 fp, cA aC ps 8 fs, cK aC pk 7 fk, cO k0 0 [], cO k1 1 [], cO k2 3 [], cO k3 5 [], cO k4 6 [], cO k5 10 [], cO k6 8 [], cI aC pa 8 u_17, cI aC pe 8 u_18, cI aC pb 8 u_16, cI aC pu 7 u_12, cI aC pw 7 u_13, cI aC pq 128 u_14, cI aC pt 128 u_15, cI aC xr 7 rf, cL aC xch 73 u_23]) hD [22, 1, 23, 2, 3, 24, 25, 4, 5, 6, 7, 8, 9, 10, 11, 12, 13, 14, 15, 16, 17, 18, 19, 20, 21, 0, 26] (by decide) rfl
            refine W.widen (k := 0) (n := 0) (by omega) (by omega) ?_
            exact W.lret (v := x_30) hx hb hr (fun t ht hW => ⟨⟨x_30, (u_10, u_11, u_12, u_13, u_14, u_15, u_16, u_17, u_18, u_19, 0, rf, u_23), rfl, ⟨Or.inr ⟨rfl, hm1⟩, hm2⟩, by rw [ht]; exact hP9, va_K.moved hW.alike hK, hD9⟩, hS.F ht⟩) hS.2.2 dX11_shaken_99
        · refine lv_lconst (v := 0) hx hb dX11_shaken_84 (by decide) ?_
          have hP9 := plP (cx := [cO h0 11 [Value.ref xp, Value.ref xtp, Value.ref xn, Value.ref xt, Value.ref xk, Value.ref xl, Value.ref xc, Value.ref xo, Value.ref xto, Value.ref xr, Value.ref xch, Value.int ts, Value.int ik, Value.int 0], cO xp 9 [Value.ref po, Value.ref pp, Value.ref ps, Value.ref pa, Value.ref pe, Value.ref pb, Value.ref xn, Value.ref pk, Value.ref pu, Value.ref pw, Value.ref pq, Value.ref pt, Value.int u_10, Value.int u_11], cO xn 4 [Value.ref ek, Value.ref ef, Value.ref ew, Value.ref ep, Value.ref es, Value.int (nI n), Value.int (nI sn), Value.int dn], cI aC ek 8 kf, cI aC ef 8 ff, cI aC ew 8 wf, cI aC es 5 stf, cA aC po 8 fo, cA aC pp 8 fp, cA aC ps 8 fs, cK aC pk 7 fk, cO k0 0 [], cO k1 1 [], cO k2 3 [], cO k3 5 [], cO k4 6 [], cO k5 10 [], cO k6 8 [], cI aC pa 8 u_17, cI aC pe 8 u_18, cI aC pb 8 u_16, cI aC pu 7 u_12, cI aC pw 7 u_13, cI aC pq 128 u_14, cI aC pt 128 u_15, cI aC xr 7 rf, cL aC xch 73 u_23]) hP [22, 1, 23, 2, 3, 24, 25, 4, 5, 6, 7, 8, 9, 10, 11, 12, 13, 14, 15, 16, 17, 18, 19, 20, 21, 0, 26] rfl
          have hD9 := plD (cx := [cO h0 11 [Value.ref xp, Value.ref xtp, Value.ref xn, Value.ref xt, Value.ref xk, Value.ref xl, Value.ref xc, Value.ref xo, Value.ref xto, Value.ref xr, Value.ref xch, Value.int ts, Value.int ik, Value.int 0], cO xp 9 [Value.ref po, Value.ref pp, Value.ref ps, Value.ref pa, Value.ref pe, Value.ref pb, Value.ref xn, Value.ref pk, Value.ref pu, Value.ref pw, Value.ref pq, Value.ref pt, Value.int u_10, Value.int u_11], cO xn 4 [Value.ref ek, Value.ref ef, Value.ref ew, Value.ref ep, Value.ref es, Value.int (nI n), Value.int (nI sn), Value.int dn], cI aC ek 8 kf, cI aC ef 8 ff, cI aC ew 8 wf, cI aC es 5 stf, cA aC po 8 fo, cA aC pp 8 fp, cA aC ps 8 fs, cK aC pk 7 fk, cO k0 0 [], cO k1 1 [], cO k2 3 [], cO k3 5 [], cO k4 6 [], cO k5 10 [], cO k6 8 [], cI aC pa 8 u_17, cI aC pe 8 u_18, cI aC pb 8 u_16, cI aC pu 7 u_12, cI aC pw 7 u_13, cI aC pq 128 u_14, cI aC pt 128 u_15, cI aC xr 7 rf, cL aC xch 73 u_23]) hD [22, 1, 23, 2, 3, 24, 25, 4, 5, 6, 7, 8, 9, 10, 11, 12, 13, 14, 15, 16, 17, 18, 19, 20, 21, 0, 26] (by decide) rfl
          refine W.widen (k := 0) (n := 0) (by omega) (by omega) ?_
          exact W.lret (v := 0) hx hb hr (fun t ht hW => ⟨⟨0, (u_10, u_11, u_12, u_13, u_14, u_15, u_16, u_17, u_18, u_19, 0, rf, u_23), rfl, ⟨Or.inr ⟨rfl, hm1⟩, hm2⟩, by rw [ht]; exact hP9, va_K.moved hW.alike hK, hD9⟩, hS.F ht⟩) hS.2.2 dX11_shaken_85
      · refine lv_ldc2 hx hb hown (hts _ (gw kw_648 rfl)) dX11_shaken_31 ?_
        refine lv_aload_n hx hb dX11_shaken_34 rfl (lv_at hl 0 rfl) ?_
        refine lv_bipush (v := -3) hx hb dX11_shaken_35 (by decide) ?_
        have hPc := hP.sub (ws' := [cO h0 11 [Value.ref xp, Value.ref xtp, Value.ref xn, Value.ref xt, Value.ref xk, Value.ref xl, Value.ref xc, Value.ref xo, Value.ref xto, Value.ref xr, Value.ref xch, Value.int ts, Value.int ik, Value.int st], cI aC xr 7 rf]) [0, 24] rfl
        have hDc := hD.sub (ws' := [cO h0 11 [Value.ref xp, Value.ref xtp, Value.ref xn, Value.ref xt, Value.ref xk, Value.ref xl, Value.ref xc, Value.ref xo, Value.ref xto, Value.ref xr, Value.ref xch, Value.int ts, Value.int ik, Value.int st], cI aC xr 7 rf]) [0, 24] (by decide) rfl
        have hFc := va_free (wc := [cO h0 11 [Value.ref xp, Value.ref xtp, Value.ref xn, Value.ref xt, Value.ref xk, Value.ref xl, Value.ref xc, Value.ref xo, Value.ref xto, Value.ref xr, Value.ref xch, Value.int ts, Value.int ik, Value.int st], cI aC xr 7 rf]) hD hS hA [0, 24] rfl
        refine va_calli (va_runV (As := [Value.int (-3)]) (rest := [Value.long 4000000000000000000]) ⟨hx, hb, hml, hown, hts⟩ (c_X11_refuse l dC dI aC H.size h0 xp xtp xn xt xk xl xc xo xto xr xch ts ik st (-3) 3 rf (by decide) (by decide) (by decide) (by unfold vp_in; decide)) ⟨(callB_of 1 hts (gG kw_276) rfl rfl rfl (hts _ (gw kw_1 rfl)) (hts _ (gw kw_273 rfl)) (by decide +kernel) ⟨Nat.le_of_ble_eq_true rfl, Nat.le_of_ble_eq_true rfl⟩), (hts _ (gw kw_275 rfl)), (hts _ (gw ks_0 rfl))⟩ ⟨fun a U g mk q => by obtain ⟨q0, q1, qP, qK, qD, qN⟩ := q; exact ⟨q0, q1, qP, va_K.moved (u := U) (U := U.calling g mk a) (Vm.Alike.refl U.vm) qK, qD, NX.same (u := U) (U := U.calling g mk a) rfl qN⟩, va_recv hK hPc (ci := 11) (q0 := 0) rfl rfl, fun U hU hW => ⟨rfl, by rw [hU], by rw [hU]; exact hPc, va_K.moved hW.alike hK, hDc.weaken (fun _ _ _ _ => trivial), NX.warm hW hN⟩⟩ rfl rfl hl.1 rfl (lv_room (Nat.le_of_ble_eq_true rfl)) dX11_shaken_37 ⟨Nat.le_of_ble_eq_true rfl, Nat.le_of_ble_eq_true rfl⟩) hS (fun q _ h => hFc q h) hFc (fun x_31 u9 t9 H1 locs ht hvm hw_31 hB hz1 hk1 hS => ?_)
        obtain ⟨u_32, rfl⟩ : ∃ z, z = u9 := ⟨_, rfl⟩
        obtain ⟨hP1, hK1, hD1⟩ := hB
        rw [ht] at hP1
        clear hK1
        try dsimp only at hw_31
        obtain ⟨hP, hD⟩ := va_joinQ (cx := [cO h0 11 [Value.ref xp, Value.ref xtp, Value.ref xn, Value.ref xt, Value.ref xk, Value.ref xl, Value.ref xc, Value.ref xo, Value.ref xto, Value.ref xr, Value.ref xch, Value.int ts, Value.int ik, Value.int st], cI aC xr 7 rf]) (wr := [cO xp 9 [Value.ref po, Value.ref pp, Value.ref ps, Value.ref pa, Value.ref pe, Value.ref pb, Value.ref xn, Value.ref pk, Value.ref pu, Value.ref pw, Value.ref pq, Value.ref pt, Value.int un, Value.int fw], cI aC ek 8 kf, cI aC ef 8 ff, cI aC ew 8 wf, cI aC es 5 stf, cA aC po 8 fo, cA aC pp 8 fp, cA aC ps 8 fs, cK aC pk 7 fk, cO k0 0 [], cO k1 1 [], cO k2 3 [], cO k3 5 [], cO k4 6 [], cO k5 10 [], cO k6 8 [], cI aC pa 8 yf, cI aC pe 8 ef0, cI aC pb 8 bf, cI aC pu 7 uf, cI aC pw 7 vf, cI aC pq 128 qf, cI aC pt 128 tf, cL aC xch 73 chf, cO xn 4 [Value.ref ek, Value.ref ef, Value.ref ew, Value.ref ep, Value.ref es, Value.int (nI n), Value.int (nI sn), Value.int dn]]) (w1 := [cO h0 11 [Value.ref xp, Value.ref xtp, Value.ref xn, Value.ref xt, Value.ref xk, Value.ref xl, Value.ref xc, Value.ref xo, Value.ref xto, Value.ref xr, Value.ref xch, Value.int ts, Value.int ik, Value.int st], cI aC xr 7 u_32]) hP hD [0, 24] [1, 2, 3, 4, 5, 6, 7, 8, 9, 10, 11, 12, 13, 14, 15, 16, 17, 18, 19, 20, 21, 22, 23, 25, 26] rfl rfl (by decide) (by decide) hk1 hFc hP1 hD1
        generalize H1 = H at hP hS ⊢
        have hP : va_P (dC, dI) classes (wp [cO xp 9 [Value.ref po, Value.ref pp, Value.ref ps, Value.ref pa, Value.ref pe, Value.ref pb, Value.ref xn, Value.ref pk, Value.ref pu, Value.ref pw, Value.ref pq, Value.ref pt, Value.int un, Value.int fw], cI aC ek 8 kf, cI aC ef 8 ff, cI aC ew 8 wf, cI aC es 5 stf, cA aC po 8 fo, cA aC pp 8 fp, cA aC ps 8 fs, cK aC pk 7 fk, cO k0 0 [], cO k1 1 [], cO k2 3 [], cO k3 5 [], cO k4 6 [], cO k5 10 [], cO k6 8 [], cI aC pa 8 yf, cI aC pe 8 ef0, cI aC pb 8 bf, cI aC pu 7 uf, cI aC pw 7 vf, cI aC pq 128 qf, cI aC pt 128 tf, cL aC xch 73 chf, cO xn 4 [Value.ref ek, Value.ref ef, Value.ref ew, Value.ref ep, Value.ref es, Value.int (nI n), Value.int (nI sn), Value.int dn], cO h0 11 [Value.ref xp, Value.ref xtp, Value.ref xn, Value.ref xt, Value.ref xk, Value.ref xl, Value.ref xc, Value.ref xo, Value.ref xto, Value.ref xr, Value.ref xch, Value.int ts, Value.int ik, Value.int st], cI aC xr 7 u_32] (va_pl L (plE aC g))) H := hP
        have hD : va_D A (wp [cO xp 9 [Value.ref po, Value.ref pp, Value.ref ps, Value.ref pa, Value.ref pe, Value.ref pb, Value.ref xn, Value.ref pk, Value.ref pu, Value.ref pw, Value.ref pq, Value.ref pt, Value.int un, Value.int fw], cI aC ek 8 kf, cI aC ef 8 ff, cI aC ew 8 wf, cI aC es 5 stf, cA aC po 8 fo, cA aC pp 8 fp, cA aC ps 8 fs, cK aC pk 7 fk, cO k0 0 [], cO k1 1 [], cO k2 3 [], cO k3 5 [], cO k4 6 [], cO k5 10 [], cO k6 8 [], cI aC pa 8 yf, cI aC pe 8 ef0, cI aC pb 8 bf, cI aC pu 7 uf, cI aC pw 7 vf, cI aC pq 128 qf, cI aC pt 128 tf, cL aC xch 73 chf, cO xn 4 [Value.ref ek, Value.ref ef, Value.ref ew, Value.ref ep, Value.ref es, Value.int (nI n), Value.int (nI sn), Value.int dn], cO h0 11 [Value.ref xp, Value.ref xtp, Value.ref xn, Value.ref xt, Value.ref xk, Value.ref xl, Value.ref xc, Value.ref xo, Value.ref xto, Value.ref xr, Value.ref xch, Value.int ts, Value.int ik, Value.int st], cI aC xr 7 u_32] (va_pl L (plE aC g))) := hD
        clear hPc hDc hFc hz1 hk1 hP1 hD1 ht hvm
        obtain ⟨hv9, -⟩ := hw_31
        refine lv_i2l hx hb dX11_shaken_40 rfl ?_
        refine lv_topl (fun x_33 e_33 => ?_)
        refine lv_lsub hx hb dX11_shaken_41 ?_
        refine lv_topl (fun x_34 e_34 => ?_)
        have hP9 := plP (cx := [cO h0 11 [Value.ref xp, Value.ref xtp, Value.ref xn, Value.ref xt, Value.ref xk, Value.ref xl, Value.ref xc, Value.ref xo, Value.ref xto, Value.ref xr, Value.ref xch, Value.int ts, Value.int ik, Value.int st], cO xp 9 [Value.ref po, Value.ref pp, Value.ref ps, Value.ref pa, Value.ref pe, Value.ref pb, Value.ref xn, Value.ref pk, Value.ref pu, Value.ref pw, Value.ref pq, Value.ref pt, Value.int un, Value.int fw], cO xn 4 [Value.ref ek, Value.ref ef, Value.ref ew, Value.ref ep, Value.ref es, Value.int (nI n), Value.int (nI sn), Value.int dn], cI aC ek 8 kf, cI aC ef 8 ff, cI aC ew 8 wf, cI aC es 5 stf, cA aC po 8 fo, cA aC pp 8 fp, cA aC ps 8 fs, cK aC pk 7 fk, cO k0 0 [], cO k1 1 [], cO k2 3 [], cO k3 5 [], cO k4 6 [], cO k5 10 [], cO k6 8 [], cI aC pa 8 yf, cI aC pe 8 ef0, cI aC pb 8 bf, cI aC pu 7 uf, cI aC pw 7 vf, cI aC pq 128 qf, cI aC pt 128 tf, cI aC xr 7 u_32, cL aC xch 73 chf]) hP [25, 0, 24, 1, 2, 3, 4, 5, 6, 7, 8, 9, 10, 11, 12, 13, 14, 15, 16, 17, 18, 19, 20, 21, 22, 26, 23] rfl
        have hD9 := plD (cx := [cO h0 11 [Value.ref xp, Value.ref xtp, Value.ref xn, Value.ref xt, Value.ref xk, Value.ref xl, Value.ref xc, Value.ref xo, Value.ref xto, Value.ref xr, Value.ref xch, Value.int ts, Value.int ik, Value.int st], cO xp 9 [Value.ref po, Value.ref pp, Value.ref ps, Value.ref pa, Value.ref pe, Value.ref pb, Value.ref xn, Value.ref pk, Value.ref pu, Value.ref pw, Value.ref pq, Value.ref pt, Value.int un, Value.int fw], cO xn 4 [Value.ref ek, Value.ref ef, Value.ref ew, Value.ref ep, Value.ref es, Value.int (nI n), Value.int (nI sn), Value.int dn], cI aC ek 8 kf, cI aC ef 8 ff, cI aC ew 8 wf, cI aC es 5 stf, cA aC po 8 fo, cA aC pp 8 fp, cA aC ps 8 fs, cK aC pk 7 fk, cO k0 0 [], cO k1 1 [], cO k2 3 [], cO k3 5 [], cO k4 6 [], cO k5 10 [], cO k6 8 [], cI aC pa 8 yf, cI aC pe 8 ef0, cI aC pb 8 bf, cI aC pu 7 uf, cI aC pw 7 vf, cI aC pq 128 qf, cI aC pt 128 tf, cI aC xr 7 u_32, cL aC xch 73 chf]) hD [25, 0, 24, 1, 2, 3, 4, 5, 6, 7, 8, 9, 10, 11, 12, 13, 14, 15, 16, 17, 18, 19, 20, 21, 22, 26, 23] (by decide) rfl
        refine W.widen (k := 0) (n := 0) (by omega) (by omega) ?_
        exact W.lret (v := x_34) hx hb hr (fun t ht hW => ⟨⟨x_34, (un, fw, uf, vf, qf, tf, bf, yf, ef0, g, st, u_32, chf), rfl, ⟨hst, fun a _ => rfl⟩, by rw [ht]; exact hP9, va_K.moved hW.alike hK, hD9⟩, hS.F ht⟩) hS.2.2 dX11_shaken_42
    · refine lv_ldc2 hx hb hown (hts _ (gw kw_648 rfl)) dX11_shaken_9 ?_
      refine lv_aload_n hx hb dX11_shaken_12 rfl (lv_at hl 0 rfl) ?_
      refine lv_bipush (v := -2) hx hb dX11_shaken_13 (by decide) ?_
      have hPc := hP.sub (ws' := [cO h0 11 [Value.ref xp, Value.ref xtp, Value.ref xn, Value.ref xt, Value.ref xk, Value.ref xl, Value.ref xc, Value.ref xo, Value.ref xto, Value.ref xr, Value.ref xch, Value.int ts, Value.int ik, Value.int st], cI aC xr 7 rf]) [0, 25] rfl
      have hDc := hD.sub (ws' := [cO h0 11 [Value.ref xp, Value.ref xtp, Value.ref xn, Value.ref xt, Value.ref xk, Value.ref xl, Value.ref xc, Value.ref xo, Value.ref xto, Value.ref xr, Value.ref xch, Value.int ts, Value.int ik, Value.int st], cI aC xr 7 rf]) [0, 25] (by decide) rfl
      have hFc := va_free (wc := [cO h0 11 [Value.ref xp, Value.ref xtp, Value.ref xn, Value.ref xt, Value.ref xk, Value.ref xl, Value.ref xc, Value.ref xo, Value.ref xto, Value.ref xr, Value.ref xch, Value.int ts, Value.int ik, Value.int st], cI aC xr 7 rf]) hD hS hA [0, 25] rfl
      refine va_calli (va_runV (As := [Value.int (-2)]) (rest := [Value.long 4000000000000000000]) ⟨hx, hb, hml, hown, hts⟩ (c_X11_refuse l dC dI aC H.size h0 xp xtp xn xt xk xl xc xo xto xr xch ts ik st (-2) 2 rf (by decide) (by decide) (by decide) (by unfold vp_in; decide)) ⟨(callB_of 1 hts (gG kw_276) rfl rfl rfl (hts _ (gw kw_1 rfl)) (hts _ (gw kw_273 rfl)) (by decide +kernel) ⟨Nat.le_of_ble_eq_true rfl, Nat.le_of_ble_eq_true rfl⟩), (hts _ (gw kw_275 rfl)), (hts _ (gw ks_0 rfl))⟩ ⟨fun a U g mk q => by obtain ⟨q0, q1, qP, qK, qD, qN⟩ := q; exact ⟨q0, q1, qP, va_K.moved (u := U) (U := U.calling g mk a) (Vm.Alike.refl U.vm) qK, qD, NX.same (u := U) (U := U.calling g mk a) rfl qN⟩, va_recv hK hPc (ci := 11) (q0 := 0) rfl rfl, fun U hU hW => ⟨rfl, by rw [hU], by rw [hU]; exact hPc, va_K.moved hW.alike hK, hDc.weaken (fun _ _ _ _ => trivial), NX.warm hW hN⟩⟩ rfl rfl hl.1 rfl (lv_room (Nat.le_of_ble_eq_true rfl)) dX11_shaken_15 ⟨Nat.le_of_ble_eq_true rfl, Nat.le_of_ble_eq_true rfl⟩) hS (fun q _ h => hFc q h) hFc (fun x_35 u9 t9 H1 locs ht hvm hw_35 hB hz1 hk1 hS => ?_)
      obtain ⟨u_36, rfl⟩ : ∃ z, z = u9 := ⟨_, rfl⟩
      obtain ⟨hP1, hK1, hD1⟩ := hB
      rw [ht] at hP1
      clear hK1
      try dsimp only at hw_35
      obtain ⟨hP, hD⟩ := va_joinQ (cx := [cO h0 11 [Value.ref xp, Value.ref xtp, Value.ref xn, Value.ref xt, Value.ref xk, Value.ref xl, Value.ref xc, Value.ref xo, Value.ref xto, Value.ref xr, Value.ref xch, Value.int ts, Value.int ik, Value.int st], cI aC xr 7 rf]) (wr := [cO xp 9 [Value.ref po, Value.ref pp, Value.ref ps, Value.ref pa, Value.ref pe, Value.ref pb, Value.ref xn, Value.ref pk, Value.ref pu, Value.ref pw, Value.ref pq, Value.ref pt, Value.int un, Value.int fw], cO xn 4 [Value.ref ek, Value.ref ef, Value.ref ew, Value.ref ep, Value.ref es, Value.int (nI n), Value.int (nI sn), Value.int dn], cI aC ek 8 kf, cI aC ef 8 ff, cI aC ew 8 wf, cI aC es 5 stf, cA aC po 8 fo, cA aC pp 8 fp, cA aC ps 8 fs, cK aC pk 7 fk, cO k0 0 [], cO k1 1 [], cO k2 3 [], cO k3 5 [], cO k4 6 [], cO k5 10 [], cO k6 8 [], cI aC pa 8 yf, cI aC pe 8 ef0, cI aC pb 8 bf, cI aC pu 7 uf, cI aC pw 7 vf, cI aC pq 128 qf, cI aC pt 128 tf, cL aC xch 73 chf]) (w1 := [cO h0 11 [Value.ref xp, Value.ref xtp, Value.ref xn, Value.ref xt, Value.ref xk, Value.ref xl, Value.ref xc, Value.ref xo, Value.ref xto, Value.ref xr, Value.ref xch, Value.int ts, Value.int ik, Value.int st], cI aC xr 7 u_36]) hP hD [0, 25] [1, 2, 3, 4, 5, 6, 7, 8, 9, 10, 11, 12, 13, 14, 15, 16, 17, 18, 19, 20, 21, 22, 23, 24, 26] rfl rfl (by decide) (by decide) hk1 hFc hP1 hD1
      generalize H1 = H at hP hS ⊢
      have hP : va_P (dC, dI) classes (wp [cO xp 9 [Value.ref po, Value.ref pp, Value.ref ps, Value.ref pa, Value.ref pe, Value.ref pb, Value.ref xn, Value.ref pk, Value.ref pu, Value.ref pw, Value.ref pq, Value.ref pt, Value.int un, Value.int fw], cO xn 4 [Value.ref ek, Value.ref ef, Value.ref ew, Value.ref ep, Value.ref es, Value.int (nI n), Value.int (nI sn), Value.int dn], cI aC ek 8 kf, cI aC ef 8 ff, cI aC ew 8 wf, cI aC es 5 stf, cA aC po 8 fo, cA aC pp 8 fp, cA aC ps 8 fs, cK aC pk 7 fk, cO k0 0 [], cO k1 1 [], cO k2 3 [], cO k3 5 [], cO k4 6 [], cO k5 10 [], cO k6 8 [], cI aC pa 8 yf, cI aC pe 8 ef0, cI aC pb 8 bf, cI aC pu 7 uf, cI aC pw 7 vf, cI aC pq 128 qf, cI aC pt 128 tf, cL aC xch 73 chf, cO h0 11 [Value.ref xp, Value.ref xtp, Value.ref xn, Value.ref xt, Value.ref xk, Value.ref xl, Value.ref xc, Value.ref xo, Value.ref xto, Value.ref xr, Value.ref xch, Value.int ts, Value.int ik, Value.int st], cI aC xr 7 u_36] (va_pl L (plE aC g))) H := hP
      have hD : va_D A (wp [cO xp 9 [Value.ref po, Value.ref pp, Value.ref ps, Value.ref pa, Value.ref pe, Value.ref pb, Value.ref xn, Value.ref pk, Value.ref pu, Value.ref pw, Value.ref pq, Value.ref pt, Value.int un, Value.int fw], cO xn 4 [Value.ref ek, Value.ref ef, Value.ref ew, Value.ref ep, Value.ref es, Value.int (nI n), Value.int (nI sn), Value.int dn], cI aC ek 8 kf, cI aC ef 8 ff, cI aC ew 8 wf, cI aC es 5 stf, cA aC po 8 fo, cA aC pp 8 fp, cA aC ps 8 fs, cK aC pk 7 fk, cO k0 0 [], cO k1 1 [], cO k2 3 [], cO k3 5 [], cO k4 6 [], cO k5 10 [], cO k6 8 [], cI aC pa 8 yf, cI aC pe 8 ef0, cI aC pb 8 bf, cI aC pu 7 uf, cI aC pw 7 vf, cI aC pq 128 qf, cI aC pt 128 tf, cL aC xch 73 chf, cO h0 11 [Value.ref xp, Value.ref xtp, Value.ref xn, Value.ref xt, Value.ref xk, Value.ref xl, Value.ref xc, Value.ref xo, Value.ref xto, Value.ref xr, Value.ref xch, Value.int ts, Value.int ik, Value.int st], cI aC xr 7 u_36] (va_pl L (plE aC g))) := hD
      clear hPc hDc hFc hz1 hk1 hP1 hD1 ht hvm
      obtain ⟨hv9, -⟩ := hw_35
      refine lv_i2l hx hb dX11_shaken_18 rfl ?_
      refine lv_topl (fun x_37 e_37 => ?_)
      refine lv_lsub hx hb dX11_shaken_19 ?_
      refine lv_topl (fun x_38 e_38 => ?_)
      have hP9 := plP (cx := [cO h0 11 [Value.ref xp, Value.ref xtp, Value.ref xn, Value.ref xt, Value.ref xk, Value.ref xl, Value.ref xc, Value.ref xo, Value.ref xto, Value.ref xr, Value.ref xch, Value.int ts, Value.int ik, Value.int st], cO xp 9 [Value.ref po, Value.ref pp, Value.ref ps, Value.ref pa, Value.ref pe, Value.ref pb, Value.ref xn, Value.ref pk, Value.ref pu, Value.ref pw, Value.ref pq, Value.ref pt, Value.int un, Value.int fw], cO xn 4 [Value.ref ek, Value.ref ef, Value.ref ew, Value.ref ep, Value.ref es, Value.int (nI n), Value.int (nI sn), Value.int dn], cI aC ek 8 kf, cI aC ef 8 ff, cI aC ew 8 wf, cI aC es 5 stf, cA aC po 8 fo, cA aC pp 8 fp, cA aC ps 8 fs, cK aC pk 7 fk, cO k0 0 [], cO k1 1 [], cO k2 3 [], cO k3 5 [], cO k4 6 [], cO k5 10 [], cO k6 8 [], cI aC pa 8 yf, cI aC pe 8 ef0, cI aC pb 8 bf, cI aC pu 7 uf, cI aC pw 7 vf, cI aC pq 128 qf, cI aC pt 128 tf, cI aC xr 7 u_36, cL aC xch 73 chf]) hP [25, 0, 1, 2, 3, 4, 5, 6, 7, 8, 9, 10, 11, 12, 13, 14, 15, 16, 17, 18, 19, 20, 21, 22, 23, 26, 24] rfl
      have hD9 := plD (cx := [cO h0 11 [Value.ref xp, Value.ref xtp, Value.ref xn, Value.ref xt, Value.ref xk, Value.ref xl, Value.ref xc, Value.ref xo, Value.ref xto, Value.ref xr, Value.ref xch, Value.int ts, Value.int ik, Value.int st], cO xp 9 [Value.ref po, Value.ref pp, Value.ref ps, Value.ref pa, Value.ref pe, Value.ref pb, Value.ref xn, Value.ref pk, Value.ref pu, Value.ref pw, Value.ref pq, Value.ref pt, Value.int un, Value.int fw], cO xn 4 [Value.ref ek, Value.ref ef, Value.ref ew, Value.ref ep, Value.ref es, Value.int (nI n), Value.int (nI sn), Value.int dn], cI aC ek 8 kf, cI aC ef 8 ff, cI aC ew 8 wf, cI aC es 5 stf, cA aC po 8 fo, cA aC pp 8 fp, cA aC ps 8 fs, cK aC pk 7 fk, cO k0 0 [], cO k1 1 [], cO k2 3 [], cO k3 5 [], cO k4 6 [], cO k5 10 [], cO k6 8 [], cI aC pa 8 yf, cI aC pe 8 ef0, cI aC pb 8 bf, cI aC pu 7 uf, cI aC pw 7 vf, cI aC pq 128 qf, cI aC pt 128 tf, cI aC xr 7 u_36, cL aC xch 73 chf]) hD [25, 0, 1, 2, 3, 4, 5, 6, 7, 8, 9, 10, 11, 12, 13, 14, 15, 16, 17, 18, 19, 20, 21, 22, 23, 26, 24] (by decide) rfl
      refine W.widen (k := 0) (n := 0) (by omega) (by omega) ?_
      exact W.lret (v := x_38) hx hb hr (fun t ht hW => ⟨⟨x_38, (un, fw, uf, vf, qf, tf, bf, yf, ef0, g, st, u_36, chf), rfl, ⟨hst, fun a _ => rfl⟩, by rw [ht]; exact hP9, va_K.moved hW.alike hK, hD9⟩, hS.F ht⟩) hS.2.2 dX11_shaken_20
