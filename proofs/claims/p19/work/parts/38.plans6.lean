theorem cst_le {f : Nat → Nat} {k s b : Nat} (hs : s < 2 ^ k) (h : ∀ u, u < k → f u ≤ b) : cst f s ≤ b * 7 := by
  unfold cst
  refine sumr_le (fun j _ _ => ?_)
  by_cases hj : j < k
  · have := h j hj
    split <;> omega
  · have : s.testBit j = false := Nat.testBit_lt_two_pow (Nat.lt_of_lt_of_le hs (Nat.pow_le_pow_right (by omega) (by omega)))
    rw [this]
    simp
/-- the best of the sets below x: the cheapest, of several the highest -/
def BST (EN : Nat → Prop) (ct : Nat → Nat) (x : Nat) (bl : Int32) : Prop := (bl = -9 ∧ ∀ z, z < x → ¬ EN z) ∨ ∃ b, b < x ∧ bl = nI b ∧ EN b ∧ ∀ z, z < x → EN z → ct b < ct z ∨ (ct b = ct z ∧ z ≤ b)
theorem BST_0 {EN : Nat → Prop} {ct : Nat → Nat} : BST EN ct 0 (-9) := Or.inl ⟨rfl, fun z h => absurd h (Nat.not_lt_zero z)⟩
theorem BST_no {EN : Nat → Prop} {ct : Nat → Nat} {x : Nat} {bl : Int32} (h : BST EN ct x bl) (hx : ¬ EN x) : BST EN ct (x + 1) bl := by
  rcases h with ⟨h1, h2⟩ | ⟨b, h1, h2, h3, h4⟩
  · refine Or.inl ⟨h1, fun z hz => ?_⟩
    by_cases e : z = x
    · rw [e]; exact hx
    · exact h2 z (by omega)
  · refine Or.inr ⟨b, by omega, h2, h3, fun z hz hE => ?_⟩
    by_cases e : z = x
    · rw [e] at hE; exact absurd hE hx
    · exact h4 z (by omega) hE
theorem BST_dear {EN : Nat → Prop} {ct : Nat → Nat} {x b : Nat} {bl : Int32} (h1 : b < x) (h2 : bl = nI b) (h3 : EN b) (h4 : ∀ z, z < x → EN z → ct b < ct z ∨ (ct b = ct z ∧ z ≤ b)) (hx : ct b < ct x) : BST EN ct (x + 1) bl := by
  refine Or.inr ⟨b, by omega, h2, h3, fun z hz hE => ?_⟩
  by_cases e : z = x
  · rw [e]; exact Or.inl hx
  · exact h4 z (by omega) hE
theorem BST_first {EN : Nat → Prop} {ct : Nat → Nat} {x : Nat} (h : ∀ z, z < x → ¬ EN z) (hx : EN x) : BST EN ct (x + 1) (nI x) := by
  refine Or.inr ⟨x, by omega, rfl, hx, fun z hz hE => ?_⟩
  by_cases e : z = x
  · rw [e]; exact Or.inr ⟨rfl, Nat.le_refl x⟩
  · exact absurd hE (h z (by omega))
theorem BST_take {EN : Nat → Prop} {ct : Nat → Nat} {x b : Nat} (h1 : b < x) (h4 : ∀ z, z < x → EN z → ct b < ct z ∨ (ct b = ct z ∧ z ≤ b)) (hx : EN x) (hc : ct x ≤ ct b) : BST EN ct (x + 1) (nI x) := by
  refine Or.inr ⟨x, by omega, rfl, hx, fun z hz hE => ?_⟩
  by_cases e : z = x
  · rw [e]; exact Or.inr ⟨rfl, Nat.le_refl x⟩
  · rcases h4 z (by omega) hE with h | ⟨h, h'⟩
    · exact Or.inl (by omega)
    · rcases Nat.lt_or_ge (ct x) (ct z) with q | q
      · exact Or.inl q
      · exact Or.inr ⟨by omega, by omega⟩

set_option maxHeartbeats 1000000 in
set_option maxRecDepth 100000 in
/-- X9_cheapestSet -/
theorem c_X9_cheapestSet (l : Launch) (dC : Nat → ClassId) (dI : Nat → Nat → Nat) (aC : Nat → ClassId) (sz : Nat) (h1 : Nat) (po : Nat) (pp : Nat) (ps : Nat) (pa : Nat) (pe : Nat) (pb : Nat) (pv : Nat) (pk : Nat) (pu : Nat) (pw : Nat) (pq : Nat) (pt : Nat) (ek : Nat) (ef : Nat) (ew : Nat) (ep : Nat) (es : Nat) (n : Nat) (sy : Int32) (dn : Int32) (wf : Nat → Int32) (stf : Nat → Int32) (W0 : Nat → Nat) (i : Nat) (k : Nat) (fw : Nat) (up : Nat → Nat) (uw : Nat → Nat) (uf : Nat → Int32) (vf : Nat → Int32) (qf : Nat → Int32) (tf : Nat → Int32) (hw : n ≤ 8 ∧ ∀ j, j < n → wf j = nI (W0 j) ∧ W0 j ≤ 9) (hi : i < n) (hk : k ≤ 7) (hfw : fw ≤ 100) (hu : ∀ u, u < k → (uf u = nI (up u) ∧ vf u = nI (uw u)) ∧ uw u ≤ 9 ∧ up u ≤ 200) : Met l yX9_cheapestSet (wW yX9_cheapestSet cX9_cheapestSet 7 (some .int)) ({ frames := 2, cells := 0, slots := 0, locals := 36 } : Room) (va_Pc [Value.ref h1, Value.int (nI i)] (fun U => U.heap.size = sz ∧ va_P (dC, dI) classes [oX9 h1 po pp ps pa pe pb pv pk pu pw pq pt (nI k) (nI fw), oX4 pv ek ef ew ep es (nI n) sy dn, cI aC ew 8 wf, cI aC es 5 stf, cI aC pu 7 uf, cI aC pw 7 vf, cI aC pq 128 qf, cI aC pt 128 tf] U.heap ∧ va_K (dC, dI) classes (TY aC) U ∧ va_D (fun _ => True) [oX9 h1 po pp ps pa pe pb pv pk pu pw pq pt (nI k) (nI fw), oX4 pv ek ef ew ep es (nI n) sy dn, cI aC ew 8 wf, cI aC es 5 stf, cI aC pu 7 uf, cI aC pw 7 vf, cI aC pq 128 qf, cI aC pt 128 tf] ∧ NX U)) (va_Qi (fun (r : Int32) (u : (Nat → Int32) × (Nat → Int32)) => match u with | (qg, tg) => BST (fun z => nd (stf 1) (sumr W0 i (n - i)) ≤ W0 i + fw + cst uw z) (cst up) (2 ^ k) r ∧ ∀ x, x < 2 ^ k → qg x = nI (cst up x)) (fun (u : (Nat → Int32) × (Nat → Int32)) (t : State) => match u with | (qg, tg) => va_P (dC, dI) classes [oX9 h1 po pp ps pa pe pb pv pk pu pw pq pt (nI k) (nI fw), oX4 pv ek ef ew ep es (nI n) sy dn, cI aC ew 8 wf, cI aC es 5 stf, cI aC pu 7 uf, cI aC pw 7 vf, cI aC pq 128 qg, cI aC pt 128 tg] t.heap ∧ va_K (dC, dI) classes (TY aC) t ∧ va_D (va_A [oX9 h1 po pp ps pa pe pb pv pk pu pw pq pt (nI k) (nI fw), oX4 pv ek ef ew ep es (nI n) sy dn, cI aC ew 8 wf, cI aC es 5 stf, cI aC pu 7 uf, cI aC pw 7 vf, cI aC pq 128 qf, cI aC pt 128 tf] sz) [oX9 h1 po pp ps pa pe pb pv pk pu pw pq pt (nI k) (nI fw), oX4 pv ek ef ew ep es (nI n) sy dn, cI aC ew 8 wf, cI aC es 5 stf, cI aC pu 7 uf, cI aC pw 7 vf, cI aC pq 128 qg, cI aC pt 128 tg]) (va_A [oX9 h1 po pp ps pa pe pb pv pk pu pw pq pt (nI k) (nI fw), oX4 pv ek ef ew ep es (nI n) sy dn, cI aC ew 8 wf, cI aC es 5 stf, cI aC pu 7 uf, cI aC pw 7 vf, cI aC pq 128 qf, cI aC pt 128 tf] sz)) 0 0 (va_A [oX9 h1 po pp ps pa pe pb pv pk pu pw pq pt (nI k) (nI fw), oX4 pv ek ef ew ep es (nI n) sy dn, cI aC ew 8 wf, cI aC es 5 stf, cI aC pu 7 uf, cI aC pw 7 vf, cI aC pq 128 qf, cI aC pt 128 tf] sz) := by
  refine Met.ofW (cc := cX9_cheapestSet) (maxL := 7) (ret := (some .int)) (by decide) rfl ?_
  intro p e s m args below meth c s₁ B hml hv
  obtain ⟨rfl, hsz, hP, hK, hD0, hN⟩ := hv
  have hx := B.exec
  have hb := B.bytes
  have hr := B.returns
  have hts0 := atoms_spec (ws := (wW yX9_cheapestSet cX9_cheapestSet 7 (some .int))) B.pre
  have hts : ∀ w9 ∈ lw_G, w9.before ([Value.ref h1, Value.int (nI i)] : List Value).toArray s = true := fun w9 h9 => hts0 w9 (List.mem_cons_of_mem _ h9)
  have hown : s.vm.findClass RX9 = some m.cls := findClass_of_methodNamed (x := yX9_cheapestSet) B.named
  have hlocks := B.notSynchronized
  subst hsz
  have hD := hD0.self (sz := s.heap.size)
  generalize hAe : va_A [oX9 h1 po pp ps pa pe pb pv pk pu pw pq pt (nI k) (nI fw), oX4 pv ek ef ew ep es (nI n) sy dn, cI aC ew 8 wf, cI aC es 5 stf, cI aC pu 7 uf, cI aC pw 7 vf, cI aC pq 128 qf, cI aC pt 128 tf] s.heap.size = A at hD ⊢
  have hA : ∀ q : Nat, s.heap.size ≤ q → A q := fun q h => by rw [← hAe]; exact Or.inr h
  obtain ⟨H, hHe⟩ : ∃ H : Heap, H = s.heap := ⟨_, rfl⟩
  have hS : va_S A s.heap H [] := by rw [hHe]; exact va_S.rf
  have hP : va_P (dC, dI) classes [oX9 h1 po pp ps pa pe pb pv pk pu pw pq pt (nI k) (nI fw), oX4 pv ek ef ew ep es (nI n) sy dn, cI aC ew 8 wf, cI aC es 5 stf, cI aC pu 7 uf, cI aC pw 7 vf, cI aC pq 128 qf, cI aC pt 128 tf] H := by rw [hHe]; exact hP
  have hl := lv_entry ([Value.ref h1, Value.int (nI i)]) (n := 7) (Nat.le_of_ble_eq_true rfl)
  rw [lg_entry_eq]
  generalize (lg_sl ([Value.ref h1, Value.int (nI i)]) ++ List.replicate (7 - (lg_sl ([Value.ref h1, Value.int (nI i)])).length) Slot.unset).toArray = ls at hl ⊢
  have hl : lv_has ls 7 [(0, Value.ref h1), (1, Value.int (nI i))] := hl
  rw [← hHe]
  have hn8 := hw.1
  have hp7 := p2_le hk
  have hW9 := (hw.2 i hi).2
  have hs9 := w_le (W := W0) (a := i) (k := n - i) (fun j q => (hw.2 j q).2) (by omega) hw.1
  refine lv_aload_n hx hb dX9_cheapestSet_0 rfl (lv_at hl 0 rfl) ?_
  refine lv_aload_n hx hb dX9_cheapestSet_1 rfl (lv_at hl 0 rfl) ?_
  refine va_get (D := (dC, dI)) (ci := 9) (v := Value.ref pv) (C := RX9) (T := TX9) (N := 14) hx hb hts inX9 hown hK hP 0 rfl rfl 6 (by decide) (hts _ (gw kw_162 rfl)) (fun _ h9 => h9) rfl dX9_cheapestSet_2 ?_
  refine va_get (D := (dC, dI)) (ci := 4) (v := Value.ref ew) (C := RX4) (T := TX4) (N := 8) hx hb hts inX4 hown hK hP 1 rfl rfl 2 (by decide) (hts _ (gw kw_40 rfl)) (fun _ h9 => h9) rfl dX9_cheapestSet_5 ?_
  refine lv_iload_n hx hb dX9_cheapestSet_8 rfl (lv_at hl 1 rfl) ?_
  have h_1 : vp_in (nI i) 8 := by first | exact vp_in_nI (by omega) (by omega) | (unfold vp_in; decide) | (subst_vars; first | (unfold vp_in; decide) | exact vp_in_nI (by omega) (by omega))
  refine va_iald hx hb hK hP 2 0 rfl rfl h_1 dX9_cheapestSet_9 ?_
  refine lv_topi (fun x_2 e_2 => ?_)
  have h9 : x_2 = nI (W0 i) := by rw [e_2, nI_clamp (by omega)]; exact (hw.2 i hi).1
  subst h9
  have hpd9 := pdf_N (cx := [oX9 h1 po pp ps pa pe pb pv pk pu pw pq pt (nI k) (nI fw), cI aC pu 7 uf, cI aC pw 7 vf, cI aC pq 128 qf, cI aC pt 128 tf]) hP hD hS hA [0, 4, 5, 6, 7] (by decide) rfl
  have hPc := hpd9.1
  have hDc := hpd9.2.1
  have hFc := hpd9.2.2
  clear hpd9
  refine va_calli (va_runV (As := [Value.int (nI (W0 i))]) (rest := []) ⟨hx, hb, hml, hown, hts⟩ (c_X9_listSets l dC dI aC H.size h1 po pp ps pa pe pb pv pk pu pw pq pt k fw (W0 i) up uw uf vf qf tf (hk) (fun u q => (hu u q).1)) ⟨(callB_of 1 hts (gG kw_461) rfl rfl rfl (hts _ (gw kw_11 rfl)) (hts _ (gw kw_458 rfl)) hd_X9_listSets ⟨Nat.le_of_ble_eq_true rfl, Nat.le_of_ble_eq_true rfl⟩), (hts _ (gw kw_460 rfl)), (hts _ (gw ks_15 rfl))⟩ ⟨fb_std, va_recv (q := (RX9, TX9, 14)) hK hPc (ci := 9) (q0 := 0) rfl rfl, pre_std hPc hK hDc hN⟩ rfl rfl hl.1 rfl (lv_room (Nat.le_of_ble_eq_true rfl)) dX9_cheapestSet_10 ⟨Nat.le_of_ble_eq_true rfl, Nat.le_of_ble_eq_true rfl⟩) hS (fun q _ h => hFc q h) hFc (fun x_3 u9 t9 H1 locs ht hvm hw_3 hB hz1 hk1 hS => ?_)
  obtain ⟨u_4, u_5⟩ := u9
  obtain ⟨hP1, hK1, hD1⟩ := hB
  rw [ht] at hP1
  clear hK1
  try dsimp only at hw_3
  have hpd9 : PDx (dC, dI) classes A H1 [oX4 pv ek ef ew ep es (nI n) sy dn, cI aC ew 8 wf, cI aC es 5 stf, oX9 h1 po pp ps pa pe pb pv pk pu pw pq pt (nI k) (nI fw), cI aC pu 7 uf, cI aC pw 7 vf, cI aC pq 128 u_4, cI aC pt 128 u_5] := jn_N (wr := [oX4 pv ek ef ew ep es (nI n) sy dn, cI aC ew 8 wf, cI aC es 5 stf]) hFc hk1 hP1 hD1 hP hD [0, 4, 5, 6, 7] [1, 2, 3] rfl rfl (by decide) (by decide)
  have hP := hpd9.1
  have hD := hpd9.2
  clear hpd9
  generalize H1 = H at hP hS ⊢
  clear hPc hDc hFc hz1 hk1 hP1 hD1 ht hvm
  obtain ⟨hl0, hl1⟩ := hw_3
  have h9 : x_3 = nI (2 ^ k) := hl0
  subst h9
  refine lv_istore_n (lv' := [(2, Value.int (nI (2 ^ k))), (0, Value.ref h1), (1, Value.int (nI i))]) hx hb dX9_cheapestSet_13 rfl hl (by decide) rfl (fun ls hl => ?_)
  refine lv_aload_n hx hb dX9_cheapestSet_14 rfl (lv_at hl 1 rfl) ?_
  refine va_get (D := (dC, dI)) (ci := 9) (v := Value.ref pv) (C := RX9) (T := TX9) (N := 14) hx hb hts inX9 hown hK hP 3 rfl rfl 6 (by decide) (hts _ (gw kw_162 rfl)) (fun _ h9 => h9) rfl dX9_cheapestSet_15 ?_
  refine lv_iload_n hx hb dX9_cheapestSet_18 rfl (lv_at hl 2 rfl) ?_
  have hpd9 := pdf_N (cx := [oX4 pv ek ef ew ep es (nI n) sy dn, cI aC ew 8 wf]) hP hD hS hA [0, 1] (by decide) rfl
  have hPc := hpd9.1
  have hDc := hpd9.2.1
  have hFc := hpd9.2.2
  clear hpd9
  refine va_calli (va_runV (As := [Value.int (nI i)]) (rest := []) ⟨hx, hb, hml, hown, hts⟩ (c_X4_weightFrom l dC dI aC H.size pv ek ef ew ep es n sy dn wf W0 i (hw) (by omega)) ⟨(callB_of 1 hts (gG kw_465) rfl rfl rfl (hts _ (gw kw_2 rfl)) (hts _ (gw kw_462 rfl)) hd_X4_weightFrom ⟨Nat.le_of_ble_eq_true rfl, Nat.le_of_ble_eq_true rfl⟩), (hts _ (gw kw_463 rfl)), (hts _ (gw kw_464 rfl))⟩ ⟨fb_std, va_recv (q := (RX4, TX4, 8)) hK hPc (ci := 4) (q0 := 0) rfl rfl, pre_std hPc hK hDc hN⟩ rfl rfl hl.1 rfl (lv_room (Nat.le_of_ble_eq_true rfl)) dX9_cheapestSet_19 ⟨Nat.le_of_ble_eq_true rfl, Nat.le_of_ble_eq_true rfl⟩) hS (fun q _ h => hFc q h) hFc (fun x_6 u9 t9 H1 locs ht hvm hw_6 hB hz1 hk1 hS => ?_)
  obtain ⟨hP1, hK1, hD1⟩ := hB
  rw [ht] at hP1
  clear hK1
  try dsimp only at hw_6
  have hpd9 : PDx (dC, dI) classes A H1 [cI aC es 5 stf, oX9 h1 po pp ps pa pe pb pv pk pu pw pq pt (nI k) (nI fw), cI aC pu 7 uf, cI aC pw 7 vf, cI aC pq 128 u_4, cI aC pt 128 u_5, oX4 pv ek ef ew ep es (nI n) sy dn, cI aC ew 8 wf] := jn_N (wr := [cI aC es 5 stf, oX9 h1 po pp ps pa pe pb pv pk pu pw pq pt (nI k) (nI fw), cI aC pu 7 uf, cI aC pw 7 vf, cI aC pq 128 u_4, cI aC pt 128 u_5]) hFc hk1 hP1 hD1 hP hD [0, 1] [2, 3, 4, 5, 6, 7] rfl rfl (by decide) (by decide)
  have hP := hpd9.1
  have hD := hpd9.2
  clear hpd9
  generalize H1 = H at hP hS ⊢
  clear hPc hDc hFc hz1 hk1 hP1 hD1 ht hvm
  have h9 : x_6 = nI (sumr W0 i (n - i)) := hw_6
  subst h9
  refine lv_istore_n (lv' := [(3, Value.int (nI (sumr W0 i (n - i)))), (2, Value.int (nI (2 ^ k))), (0, Value.ref h1), (1, Value.int (nI i))]) hx hb dX9_cheapestSet_22 rfl hl (by decide) rfl (fun ls hl => ?_)
  refine lv_bipush (v := -9) hx hb dX9_cheapestSet_23 (by decide) ?_
  refine lv_istore (lv' := [(4, Value.int (-9)), (3, Value.int (nI (sumr W0 i (n - i)))), (2, Value.int (nI (2 ^ k))), (0, Value.ref h1), (1, Value.int (nI i))]) hx hb dX9_cheapestSet_25 hl (by decide) rfl (fun ls hl => ?_)
  refine lv_iconst (v := 0) hx hb dX9_cheapestSet_27 (by decide) ?_
  refine lv_istore (lv' := [(5, Value.int 0), (4, Value.int (-9)), (3, Value.int (nI (sumr W0 i (n - i)))), (2, Value.int (nI (2 ^ k))), (0, Value.ref h1), (1, Value.int (nI i))]) hx hb dX9_cheapestSet_28 hl (by decide) rfl (fun ls hl => ?_)
  have lp_30 : ∀ (fu : Nat) (x : Nat) (bl : Int32) (hfu : 2 ^ k - x < fu) (hxx : x ≤ 2 ^ k) (hbl : BST (fun z => nd (stf 1) (sumr W0 i (n - i)) ≤ W0 i + fw + cst uw z) (cst up) x bl) (H : Heap) (locs : List Loc) (ls : Array Slot), va_P (dC, dI) classes [cI aC es 5 stf, oX9 h1 po pp ps pa pe pb pv pk pu pw pq pt (nI k) (nI fw), cI aC pu 7 uf, cI aC pw 7 vf, cI aC pq 128 u_4, cI aC pt 128 u_5, oX4 pv ek ef ew ep es (nI n) sy dn, cI aC ew 8 wf] H → va_D A [cI aC es 5 stf, oX9 h1 po pp ps pa pe pb pv pk pu pw pq pt (nI k) (nI fw), cI aC pu 7 uf, cI aC pw 7 vf, cI aC pq 128 u_4, cI aC pt 128 u_5, oX4 pv ek ef ew ep es (nI n) sy dn, cI aC ew 8 wf] → va_S A s.heap H locs → lv_has ls 7 [(0, Value.ref h1), (1, Value.int (nI i)), (2, Value.int (nI (2 ^ k))), (3, Value.int (nI (sumr W0 i (n - i)))), (4, Value.int bl), (5, Value.int (nI x))] → W p l e (headSpec (wW yX9_cheapestSet cX9_cheapestSet 7 (some .int)) ({ frames := 2, cells := 0, slots := 0, locals := 36 } : Room)).room s m ([Value.ref h1, Value.int (nI i)] : List Value).toArray below meth c H locs 0 0 (MQ below (va_Qi (fun (r : Int32) (u : (Nat → Int32) × (Nat → Int32)) => match u with | (qg, tg) => BST (fun z => nd (stf 1) (sumr W0 i (n - i)) ≤ W0 i + fw + cst uw z) (cst up) (2 ^ k) r ∧ ∀ x, x < 2 ^ k → qg x = nI (cst up x)) (fun (u : (Nat → Int32) × (Nat → Int32)) (t : State) => match u with | (qg, tg) => va_P (dC, dI) classes [oX9 h1 po pp ps pa pe pb pv pk pu pw pq pt (nI k) (nI fw), oX4 pv ek ef ew ep es (nI n) sy dn, cI aC ew 8 wf, cI aC es 5 stf, cI aC pu 7 uf, cI aC pw 7 vf, cI aC pq 128 qg, cI aC pt 128 tg] t.heap ∧ va_K (dC, dI) classes (TY aC) t ∧ va_D A [oX9 h1 po pp ps pa pe pb pv pk pu pw pq pt (nI k) (nI fw), oX4 pv ek ef ew ep es (nI n) sy dn, cI aC ew 8 wf, cI aC es 5 stf, cI aC pu 7 uf, cI aC pw 7 vf, cI aC pq 128 qg, cI aC pt 128 tg]) A) ([Value.ref h1, Value.int (nI i)] : List Value).toArray s 0 0 A) (F0 m 30 ls []) := by
    intro fu
    induction fu with
    | zero => intro x bl hfu; exact absurd hfu (Nat.not_lt_zero _)
    | succ fu ih_30 =>
      intro x bl hfu hxx hbl H locs ls hP hD hS hl
      refine lv_iload hx hb dX9_cheapestSet_30 (lv_at hl 5 rfl) ?_
      refine lv_iload_n hx hb dX9_cheapestSet_32 rfl (lv_at hl 2 rfl) ?_
      refine lv_icmp_ge (tgt := 103) hx hb dX9_cheapestSet_33 (by decide) (fun c_7 => ?_) (fun c_7 => ?_)
      · have hxe : x = 2 ^ k := by
          rcases Nat.lt_or_ge x (2 ^ k) with q | q
          · exact absurd c_7 (nI_ge q (by omega))
          · omega
        refine lv_iload hx hb dX9_cheapestSet_103 (lv_at hl 4 rfl) ?_
        have hpd9 := pd_N (cx := [oX9 h1 po pp ps pa pe pb pv pk pu pw pq pt (nI k) (nI fw), oX4 pv ek ef ew ep es (nI n) sy dn, cI aC ew 8 wf, cI aC es 5 stf, cI aC pu 7 uf, cI aC pw 7 vf, cI aC pq 128 u_4, cI aC pt 128 u_5]) hP hD [1, 6, 7, 0, 2, 3, 4, 5] (by decide) rfl
        have hP9 := hpd9.1
        have hD9 := hpd9.2
        refine W.widen (k := 0) (n := 0) (by omega) (by omega) ?_
        exact W.iret (v := bl) hx hb hr (fun t ht hW => ⟨⟨bl, (u_4, u_5), rfl, ⟨by rw [← hxe]; exact hbl, fun x hx => (hl1 x hx).1⟩, by rw [ht]; exact hP9, va_K.moved hW.alike hK, hD9⟩, hS.F ht⟩) hS.2.2 dX9_cheapestSet_105
      · have hlx : x < 2 ^ k := by
          rcases Nat.lt_or_ge x (2 ^ k) with q | q
          · exact q
          · exact absurd (nI_le q (by omega)) c_7
        obtain ⟨hd1, hd2⟩ := hl1 x hlx
        have hcu := cst_le (f := uw) (k := k) (s := x) (b := 9) hlx (fun u q => (hu u q).2.1)
        refine lv_iload hx hb dX9_cheapestSet_36 (lv_at hl 4 rfl) ?_
        refine lv_if_lt (tgt := 58) hx hb dX9_cheapestSet_38 (by decide) (fun c_8 => ?_) (fun c_8 => ?_)
        · have hb0 := hbl.resolve_right (fun ⟨b, q1, q2, _⟩ => absurd c_8 (by rw [q2]; exact nI_pos (by omega)))
          refine lv_iconst (v := 1) hx hb dX9_cheapestSet_58 (by decide) ?_
          refine lv_goto (tgt := 63) hx hb dX9_cheapestSet_59 (by decide) ?_
          refine lv_istore (lv' := [(6, Value.int 1), (0, Value.ref h1), (1, Value.int (nI i)), (2, Value.int (nI (2 ^ k))), (3, Value.int (nI (sumr W0 i (n - i)))), (4, Value.int bl), (5, Value.int (nI x))]) hx hb dX9_cheapestSet_63 hl (by decide) rfl (fun ls hl => ?_)
          refine lv_iload hx hb dX9_cheapestSet_65 (lv_at hl 0 rfl) ?_
          refine lv_if_eq (tgt := 97) hx hb dX9_cheapestSet_67 (by decide) (fun c_9 => ?_) (fun c_9 => ?_)
          · exact absurd c_9 (by decide)
          · refine lv_aload_n hx hb dX9_cheapestSet_70 rfl (lv_at hl 1 rfl) ?_
            refine va_get (D := (dC, dI)) (ci := 9) (v := Value.ref pv) (C := RX9) (T := TX9) (N := 14) hx hb hts inX9 hown hK hP 1 rfl rfl 6 (by decide) (hts _ (gw kw_162 rfl)) (fun _ h9 => h9) rfl dX9_cheapestSet_71 ?_
            refine va_get (D := (dC, dI)) (ci := 4) (v := Value.ref es) (C := RX4) (T := TX4) (N := 8) hx hb hts inX4 hown hK hP 6 rfl rfl 4 (by decide) (hts _ (gw kw_44 rfl)) (fun _ h9 => h9) rfl dX9_cheapestSet_74 ?_
            refine lv_iconst (v := 1) hx hb dX9_cheapestSet_77 (by decide) ?_
            have h_10 : vp_in 1 5 := by unfold vp_in; decide
            refine va_iald hx hb hK hP 0 0 rfl rfl h_10 dX9_cheapestSet_78 ?_
            refine lv_topi (fun x_11 e_11 => ?_)
            have h9 : x_11 = (stf 1) := by rw [e_11]; rfl
            subst h9
            refine lv_aload_n hx hb dX9_cheapestSet_79 rfl (lv_at hl 1 rfl) ?_
            refine va_get (D := (dC, dI)) (ci := 9) (v := Value.ref pt) (C := RX9) (T := TX9) (N := 14) hx hb hts inX9 hown hK hP 1 rfl rfl 11 (by decide) (hts _ (gw kw_168 rfl)) (fun _ h9 => h9) rfl dX9_cheapestSet_80 ?_
            refine lv_iload hx hb dX9_cheapestSet_83 (lv_at hl 6 rfl) ?_
            have h_12 : vp_in (nI x) 128 := by first | exact vp_in_nI (by omega) (by omega) | (unfold vp_in; decide) | (subst_vars; first | (unfold vp_in; decide) | exact vp_in_nI (by omega) (by omega))
            refine va_iald hx hb hK hP 5 0 rfl rfl h_12 dX9_cheapestSet_85 ?_
            refine lv_topi (fun x_13 e_13 => ?_)
            have h9 : x_13 = nI (W0 i + fw + cst uw x) := by rw [e_13, nI_clamp (by omega)]; exact hd2
            subst h9
            refine lv_iload_n hx hb dX9_cheapestSet_86 rfl (lv_at hl 4 rfl) ?_
            have hpd9 := pdf_N (cx := []) hP hD hS hA [] (by decide) rfl
            have hPc := hpd9.1
            have hDc := hpd9.2.1
            have hFc := hpd9.2.2
            clear hpd9
            refine va_calli (va_runSN (As := [Value.int (stf 1), Value.int (nI (W0 i + fw + cst uw x)), Value.int (nI (sumr W0 i (n - i)))]) (rest := []) ⟨hx, hb, hml, hown, hts⟩ (c_X11_isEnough l dC dI aC H.size (stf 1) (W0 i + fw + cst uw x) (sumr W0 i (n - i)) (by omega) (by omega)) ⟨(va_cnB 3 hts (gG kw_469) rfl rfl rfl (hN.1 _ kw_467 rfl) (hts _ (gw kw_1 rfl)) hd_X11_isEnough ⟨Nat.le_of_ble_eq_true rfl, Nat.le_of_ble_eq_true rfl⟩), (hts _ (gw kw_468 rfl)), trivial⟩ ⟨fb_std, pre_std hPc hK hDc hN⟩ rfl rfl hl.1 rfl (lv_room (Nat.le_of_ble_eq_true rfl)) dX9_cheapestSet_87 ⟨Nat.le_of_ble_eq_true rfl, Nat.le_of_ble_eq_true rfl⟩) hS (fun q _ h => hFc q h) hFc (fun x_14 u9 t9 H1 locs ht hvm hw_14 hB hz1 hk1 hS => ?_)
            obtain ⟨hP1, hK1, hD1⟩ := hB
            rw [ht] at hP1
            clear hK1
            try dsimp only at hw_14
            have hpd9 : PDx (dC, dI) classes A H1 [cI aC es 5 stf, oX9 h1 po pp ps pa pe pb pv pk pu pw pq pt (nI k) (nI fw), cI aC pu 7 uf, cI aC pw 7 vf, cI aC pq 128 u_4, cI aC pt 128 u_5, oX4 pv ek ef ew ep es (nI n) sy dn, cI aC ew 8 wf] := jn_N (wr := [cI aC es 5 stf, oX9 h1 po pp ps pa pe pb pv pk pu pw pq pt (nI k) (nI fw), cI aC pu 7 uf, cI aC pw 7 vf, cI aC pq 128 u_4, cI aC pt 128 u_5, oX4 pv ek ef ew ep es (nI n) sy dn, cI aC ew 8 wf]) hFc hk1 hP1 hD1 hP hD [] [0, 1, 2, 3, 4, 5, 6, 7] rfl rfl (by decide) (by decide)
            have hP := hpd9.1
            have hD := hpd9.2
            clear hpd9
            generalize H1 = H at hP hS ⊢
            clear hPc hDc hFc hz1 hk1 hP1 hD1 ht hvm
            have hz_87 := hw_14
            refine lv_if_eq (tgt := 97) hx hb dX9_cheapestSet_90 (by decide) (fun c_15 => ?_) (fun c_15 => ?_)
            · have hEx : ¬ (fun z => nd (stf 1) (sumr W0 i (n - i)) ≤ W0 i + fw + cst uw z) x := fun q => absurd (hz_87.symm.trans c_15) (by rw [if_pos q]; decide)
              have hbn := BST_no (ct := cst up) (Or.inl hb0) hEx
              obtain ⟨x_16, e_16⟩ : ∃ y : Int32, y = (nI x) + 1 := ⟨_, rfl⟩
              refine lv_iinc (v := x_16) (lv' := [(5, Value.int x_16), (6, Value.int 1), (0, Value.ref h1), (1, Value.int (nI i)), (2, Value.int (nI (2 ^ k))), (3, Value.int (nI (sumr W0 i (n - i)))), (4, Value.int bl)]) hx hb dX9_cheapestSet_97 hl (k := 6) rfl (by rw [e_16]; rfl) (by decide) rfl (fun ls hl => ?_)
              have h9 : x_16 = nI (x + 1) := by rw [e_16, nI_1]
              subst h9
              refine lv_goto (tgt := 30) hx hb dX9_cheapestSet_100 (by decide) ?_
              exact ih_30 (x + 1) bl (by omega) (by omega) (hbn) _ _ _ (hP.sub [0, 1, 2, 3, 4, 5, 6, 7] rfl) (hD.sub [0, 1, 2, 3, 4, 5, 6, 7] (by decide) rfl) hS (lv_sub hl [2, 3, 4, 5, 6, 0] rfl)
            · refine lv_iload hx hb dX9_cheapestSet_93 (lv_at hl 6 rfl) ?_
              refine lv_istore (lv' := [(4, Value.int (nI x)), (6, Value.int 1), (0, Value.ref h1), (1, Value.int (nI i)), (2, Value.int (nI (2 ^ k))), (3, Value.int (nI (sumr W0 i (n - i)))), (5, Value.int (nI x))]) hx hb dX9_cheapestSet_95 hl (by decide) rfl (fun ls hl => ?_)
              have hEx : (fun z => nd (stf 1) (sumr W0 i (n - i)) ≤ W0 i + fw + cst uw z) x := by
                by_cases q : nd (stf 1) (sumr W0 i (n - i)) ≤ W0 i + fw + cst uw x
                · exact q
                · exact absurd (by rw [hz_87, if_neg q]) c_15
              have hbn := BST_first (ct := cst up) hb0.2 hEx
              obtain ⟨x_17, e_17⟩ : ∃ y : Int32, y = (nI x) + 1 := ⟨_, rfl⟩
              refine lv_iinc (v := x_17) (lv' := [(5, Value.int x_17), (4, Value.int (nI x)), (6, Value.int 1), (0, Value.ref h1), (1, Value.int (nI i)), (2, Value.int (nI (2 ^ k))), (3, Value.int (nI (sumr W0 i (n - i))))]) hx hb dX9_cheapestSet_97 hl (k := 6) rfl (by rw [e_17]; rfl) (by decide) rfl (fun ls hl => ?_)
              have h9 : x_17 = nI (x + 1) := by rw [e_17, nI_1]
              subst h9
              refine lv_goto (tgt := 30) hx hb dX9_cheapestSet_100 (by decide) ?_
              exact ih_30 (x + 1) (nI x) (by omega) (by omega) (hbn) _ _ _ (hP.sub [0, 1, 2, 3, 4, 5, 6, 7] rfl) (hD.sub [0, 1, 2, 3, 4, 5, 6, 7] (by decide) rfl) hS (lv_sub hl [3, 4, 5, 6, 1, 0] rfl)
        · obtain ⟨b, hb1, hb2, hb3, hb4⟩ := hbl.resolve_left (fun h => c_8 (by rw [h.1]; decide))
          have h9 : bl = nI b := hb2
          subst h9
          have hcb := cst_le (f := up) (k := k) (s := b) (b := 200) (by omega) (fun u q => (hu u q).2.2)
          have hcx9 := cst_le (f := up) (k := k) (s := x) (b := 200) (by omega) (fun u q => (hu u q).2.2)
          refine lv_aload_n hx hb dX9_cheapestSet_41 rfl (lv_at hl 0 rfl) ?_
          refine va_get (D := (dC, dI)) (ci := 9) (v := Value.ref pq) (C := RX9) (T := TX9) (N := 14) hx hb hts inX9 hown hK hP 1 rfl rfl 10 (by decide) (hts _ (gw kw_167 rfl)) (fun _ h9 => h9) rfl dX9_cheapestSet_42 ?_
          refine lv_iload hx hb dX9_cheapestSet_45 (lv_at hl 5 rfl) ?_
          have h_18 : vp_in (nI x) 128 := by first | exact vp_in_nI (by omega) (by omega) | (unfold vp_in; decide) | (subst_vars; first | (unfold vp_in; decide) | exact vp_in_nI (by omega) (by omega))
          refine va_iald hx hb hK hP 4 0 rfl rfl h_18 dX9_cheapestSet_47 ?_
          refine lv_topi (fun x_19 e_19 => ?_)
          have h9 : x_19 = nI (cst up x) := by rw [e_19, nI_clamp (by omega)]; exact hd1
          subst h9
          refine lv_aload_n hx hb dX9_cheapestSet_48 rfl (lv_at hl 0 rfl) ?_
          refine va_get (D := (dC, dI)) (ci := 9) (v := Value.ref pq) (C := RX9) (T := TX9) (N := 14) hx hb hts inX9 hown hK hP 1 rfl rfl 10 (by decide) (hts _ (gw kw_167 rfl)) (fun _ h9 => h9) rfl dX9_cheapestSet_49 ?_
          refine lv_iload hx hb dX9_cheapestSet_52 (lv_at hl 4 rfl) ?_
          have h_20 : vp_in (nI b) 128 := by first | exact vp_in_nI (by omega) (by omega) | (unfold vp_in; decide) | (subst_vars; first | (unfold vp_in; decide) | exact vp_in_nI (by omega) (by omega))
          refine va_iald hx hb hK hP 4 0 rfl rfl h_20 dX9_cheapestSet_54 ?_
          refine lv_topi (fun x_21 e_21 => ?_)
          have h9 : x_21 = nI (cst up b) := by rw [e_21, nI_clamp (by omega)]; exact (hl1 b (by omega)).1
          subst h9
          refine lv_icmp_gt (tgt := 62) hx hb dX9_cheapestSet_55 (by decide) (fun c_22 => ?_) (fun c_22 => ?_)
          · have hcx : cst up b < cst up x := (nI_ltI (by omega) (by omega)).mp c_22
            refine lv_iconst (v := 0) hx hb dX9_cheapestSet_62 (by decide) ?_
            refine lv_istore (lv' := [(6, Value.int 0), (0, Value.ref h1), (1, Value.int (nI i)), (2, Value.int (nI (2 ^ k))), (3, Value.int (nI (sumr W0 i (n - i)))), (4, Value.int (nI b)), (5, Value.int (nI x))]) hx hb dX9_cheapestSet_63 hl (by decide) rfl (fun ls hl => ?_)
            refine lv_iload hx hb dX9_cheapestSet_65 (lv_at hl 0 rfl) ?_
            refine lv_if_eq (tgt := 97) hx hb dX9_cheapestSet_67 (by decide) (fun c_23 => ?_) (fun c_23 => ?_)
            · have hbn := BST_dear (bl := nI b) hb1 rfl hb3 hb4 hcx
              obtain ⟨x_24, e_24⟩ : ∃ y : Int32, y = (nI x) + 1 := ⟨_, rfl⟩
              refine lv_iinc (v := x_24) (lv' := [(5, Value.int x_24), (6, Value.int 0), (0, Value.ref h1), (1, Value.int (nI i)), (2, Value.int (nI (2 ^ k))), (3, Value.int (nI (sumr W0 i (n - i)))), (4, Value.int (nI b))]) hx hb dX9_cheapestSet_97 hl (k := 6) rfl (by rw [e_24]; rfl) (by decide) rfl (fun ls hl => ?_)
              have h9 : x_24 = nI (x + 1) := by rw [e_24, nI_1]
              subst h9
              refine lv_goto (tgt := 30) hx hb dX9_cheapestSet_100 (by decide) ?_
              exact ih_30 (x + 1) (nI b) (by omega) (by omega) (hbn) _ _ _ (hP.sub [0, 1, 2, 3, 4, 5, 6, 7] rfl) (hD.sub [0, 1, 2, 3, 4, 5, 6, 7] (by decide) rfl) hS (lv_sub hl [2, 3, 4, 5, 6, 0] rfl)
            · exact absurd rfl c_23
          · have hcx : cst up x ≤ cst up b := by
              rcases Nat.lt_or_ge (cst up b) (cst up x) with q | q
              · exact absurd (nI_lt q (by omega)) c_22
              · exact q
            refine lv_iconst (v := 1) hx hb dX9_cheapestSet_58 (by decide) ?_
            refine lv_goto (tgt := 63) hx hb dX9_cheapestSet_59 (by decide) ?_
            refine lv_istore (lv' := [(6, Value.int 1), (0, Value.ref h1), (1, Value.int (nI i)), (2, Value.int (nI (2 ^ k))), (3, Value.int (nI (sumr W0 i (n - i)))), (4, Value.int (nI b)), (5, Value.int (nI x))]) hx hb dX9_cheapestSet_63 hl (by decide) rfl (fun ls hl => ?_)
            refine lv_iload hx hb dX9_cheapestSet_65 (lv_at hl 0 rfl) ?_
            refine lv_if_eq (tgt := 97) hx hb dX9_cheapestSet_67 (by decide) (fun c_25 => ?_) (fun c_25 => ?_)
            · exact absurd c_25 (by decide)
            · refine lv_aload_n hx hb dX9_cheapestSet_70 rfl (lv_at hl 1 rfl) ?_
              refine va_get (D := (dC, dI)) (ci := 9) (v := Value.ref pv) (C := RX9) (T := TX9) (N := 14) hx hb hts inX9 hown hK hP 1 rfl rfl 6 (by decide) (hts _ (gw kw_162 rfl)) (fun _ h9 => h9) rfl dX9_cheapestSet_71 ?_
              refine va_get (D := (dC, dI)) (ci := 4) (v := Value.ref es) (C := RX4) (T := TX4) (N := 8) hx hb hts inX4 hown hK hP 6 rfl rfl 4 (by decide) (hts _ (gw kw_44 rfl)) (fun _ h9 => h9) rfl dX9_cheapestSet_74 ?_
              refine lv_iconst (v := 1) hx hb dX9_cheapestSet_77 (by decide) ?_
              have h_26 : vp_in 1 5 := by unfold vp_in; decide
              refine va_iald hx hb hK hP 0 0 rfl rfl h_26 dX9_cheapestSet_78 ?_
              refine lv_topi (fun x_27 e_27 => ?_)
              have h9 : x_27 = (stf 1) := by rw [e_27]; rfl
              subst h9
              refine lv_aload_n hx hb dX9_cheapestSet_79 rfl (lv_at hl 1 rfl) ?_
              refine va_get (D := (dC, dI)) (ci := 9) (v := Value.ref pt) (C := RX9) (T := TX9) (N := 14) hx hb hts inX9 hown hK hP 1 rfl rfl 11 (by decide) (hts _ (gw kw_168 rfl)) (fun _ h9 => h9) rfl dX9_cheapestSet_80 ?_
              refine lv_iload hx hb dX9_cheapestSet_83 (lv_at hl 6 rfl) ?_
              have h_28 : vp_in (nI x) 128 := by first | exact vp_in_nI (by omega) (by omega) | (unfold vp_in; decide) | (subst_vars; first | (unfold vp_in; decide) | exact vp_in_nI (by omega) (by omega))
              refine va_iald hx hb hK hP 5 0 rfl rfl h_28 dX9_cheapestSet_85 ?_
              refine lv_topi (fun x_29 e_29 => ?_)
              have h9 : x_29 = nI (W0 i + fw + cst uw x) := by rw [e_29, nI_clamp (by omega)]; exact hd2
              subst h9
              refine lv_iload_n hx hb dX9_cheapestSet_86 rfl (lv_at hl 4 rfl) ?_
              have hpd9 := pdf_N (cx := []) hP hD hS hA [] (by decide) rfl
              have hPc := hpd9.1
              have hDc := hpd9.2.1
              have hFc := hpd9.2.2
              clear hpd9
              refine va_calli (va_runSN (As := [Value.int (stf 1), Value.int (nI (W0 i + fw + cst uw x)), Value.int (nI (sumr W0 i (n - i)))]) (rest := []) ⟨hx, hb, hml, hown, hts⟩ (c_X11_isEnough l dC dI aC H.size (stf 1) (W0 i + fw + cst uw x) (sumr W0 i (n - i)) (by omega) (by omega)) ⟨(va_cnB 3 hts (gG kw_469) rfl rfl rfl (hN.1 _ kw_467 rfl) (hts _ (gw kw_1 rfl)) hd_X11_isEnough ⟨Nat.le_of_ble_eq_true rfl, Nat.le_of_ble_eq_true rfl⟩), (hts _ (gw kw_468 rfl)), trivial⟩ ⟨fb_std, pre_std hPc hK hDc hN⟩ rfl rfl hl.1 rfl (lv_room (Nat.le_of_ble_eq_true rfl)) dX9_cheapestSet_87 ⟨Nat.le_of_ble_eq_true rfl, Nat.le_of_ble_eq_true rfl⟩) hS (fun q _ h => hFc q h) hFc (fun x_30 u9 t9 H1 locs ht hvm hw_30 hB hz1 hk1 hS => ?_)
              obtain ⟨hP1, hK1, hD1⟩ := hB
              rw [ht] at hP1
              clear hK1
              try dsimp only at hw_30
              have hpd9 : PDx (dC, dI) classes A H1 [cI aC es 5 stf, oX9 h1 po pp ps pa pe pb pv pk pu pw pq pt (nI k) (nI fw), cI aC pu 7 uf, cI aC pw 7 vf, cI aC pq 128 u_4, cI aC pt 128 u_5, oX4 pv ek ef ew ep es (nI n) sy dn, cI aC ew 8 wf] := jn_N (wr := [cI aC es 5 stf, oX9 h1 po pp ps pa pe pb pv pk pu pw pq pt (nI k) (nI fw), cI aC pu 7 uf, cI aC pw 7 vf, cI aC pq 128 u_4, cI aC pt 128 u_5, oX4 pv ek ef ew ep es (nI n) sy dn, cI aC ew 8 wf]) hFc hk1 hP1 hD1 hP hD [] [0, 1, 2, 3, 4, 5, 6, 7] rfl rfl (by decide) (by decide)
              have hP := hpd9.1
              have hD := hpd9.2
              clear hpd9
              generalize H1 = H at hP hS ⊢
              clear hPc hDc hFc hz1 hk1 hP1 hD1 ht hvm
              have hz_87 := hw_30
              refine lv_if_eq (tgt := 97) hx hb dX9_cheapestSet_90 (by decide) (fun c_31 => ?_) (fun c_31 => ?_)
              · have hEx : ¬ (fun z => nd (stf 1) (sumr W0 i (n - i)) ≤ W0 i + fw + cst uw z) x := fun q => absurd (hz_87.symm.trans c_31) (by rw [if_pos q]; decide)
                have hbn := BST_no (ct := cst up) (bl := nI b) (Or.inr ⟨b, hb1, rfl, hb3, hb4⟩) hEx
                obtain ⟨x_32, e_32⟩ : ∃ y : Int32, y = (nI x) + 1 := ⟨_, rfl⟩
                refine lv_iinc (v := x_32) (lv' := [(5, Value.int x_32), (6, Value.int 1), (0, Value.ref h1), (1, Value.int (nI i)), (2, Value.int (nI (2 ^ k))), (3, Value.int (nI (sumr W0 i (n - i)))), (4, Value.int (nI b))]) hx hb dX9_cheapestSet_97 hl (k := 6) rfl (by rw [e_32]; rfl) (by decide) rfl (fun ls hl => ?_)
                have h9 : x_32 = nI (x + 1) := by rw [e_32, nI_1]
                subst h9
                refine lv_goto (tgt := 30) hx hb dX9_cheapestSet_100 (by decide) ?_
                exact ih_30 (x + 1) (nI b) (by omega) (by omega) (hbn) _ _ _ (hP.sub [0, 1, 2, 3, 4, 5, 6, 7] rfl) (hD.sub [0, 1, 2, 3, 4, 5, 6, 7] (by decide) rfl) hS (lv_sub hl [2, 3, 4, 5, 6, 0] rfl)
              · refine lv_iload hx hb dX9_cheapestSet_93 (lv_at hl 6 rfl) ?_
                refine lv_istore (lv' := [(4, Value.int (nI x)), (6, Value.int 1), (0, Value.ref h1), (1, Value.int (nI i)), (2, Value.int (nI (2 ^ k))), (3, Value.int (nI (sumr W0 i (n - i)))), (5, Value.int (nI x))]) hx hb dX9_cheapestSet_95 hl (by decide) rfl (fun ls hl => ?_)
                have hEx : (fun z => nd (stf 1) (sumr W0 i (n - i)) ≤ W0 i + fw + cst uw z) x := by
                  by_cases q : nd (stf 1) (sumr W0 i (n - i)) ≤ W0 i + fw + cst uw x
                  · exact q
                  · exact absurd (by rw [hz_87, if_neg q]) c_31
                have hbn := BST_take hb1 hb4 hEx hcx
                obtain ⟨x_33, e_33⟩ : ∃ y : Int32, y = (nI x) + 1 := ⟨_, rfl⟩
                refine lv_iinc (v := x_33) (lv' := [(5, Value.int x_33), (4, Value.int (nI x)), (6, Value.int 1), (0, Value.ref h1), (1, Value.int (nI i)), (2, Value.int (nI (2 ^ k))), (3, Value.int (nI (sumr W0 i (n - i))))]) hx hb dX9_cheapestSet_97 hl (k := 6) rfl (by rw [e_33]; rfl) (by decide) rfl (fun ls hl => ?_)
                have h9 : x_33 = nI (x + 1) := by rw [e_33, nI_1]
                subst h9
                refine lv_goto (tgt := 30) hx hb dX9_cheapestSet_100 (by decide) ?_
                exact ih_30 (x + 1) (nI x) (by omega) (by omega) (hbn) _ _ _ (hP.sub [0, 1, 2, 3, 4, 5, 6, 7] rfl) (hD.sub [0, 1, 2, 3, 4, 5, 6, 7] (by decide) rfl) hS (lv_sub hl [3, 4, 5, 6, 1, 0] rfl)
  exact lp_30 ((2 ^ k - 0) + 1) 0 (-9) (Nat.lt_succ_self _) (Nat.zero_le _) (BST_0) _ _ _ (hP.sub [0, 1, 2, 3, 4, 5, 6, 7] rfl) (hD.sub [0, 1, 2, 3, 4, 5, 6, 7] (by decide) rfl) hS (lv_sub hl [4, 5, 3, 2, 1, 0] rfl)
