section
/-! 36.plans4 -/
set_option maxHeartbeats 1000000 in
set_option maxRecDepth 100000 in
/-- X9_vote -/
theorem c_X9_vote (l : Launch) (dC : Nat → ClassId) (dI : Nat → Nat → Nat) (aC : Nat → ClassId) (sz : Nat) (h1 : Nat) (po : Nat) (pp : Nat) (ps : Nat) (pa : Nat) (pe : Nat) (pb : Nat) (pv : Nat) (pk : Nat) (pu : Nat) (pw : Nat) (pq : Nat) (pt : Nat) (un : Int32) (fw : Int32) (ek : Nat) (ef : Nat) (ew : Nat) (ep : Nat) (es : Nat) (n : Nat) (sy : Int32) (dn : Int32) (L : List Nat) (g : Nat → Nat → Int32) (fo : Nat → Option Nat) (fp : Nat → Option Nat) (fs : Nat → Option Nat) (ro : Nat → Nat) (rp : Nat → Nat) (rs : Nat → Nat) (yf : Nat → Int32) (i : Nat) (O : Nat → Nat) (Pq : Nat → Nat) (hgr : GRD L fo fp fs ro rp rs) (hi : i < n ∧ n ≤ 8) (hO : ∀ q, q < 8 → g (ro i) q = nI (O q) ∧ O q ≤ 1000) (hPq : ∀ q, i < q → q < n → g (rp i) q = nI (Pq q) ∧ Pq q ≤ 1000) : Met l yX9_vote (wW yX9_vote cX9_vote 3 (none : Option FieldType)) ({ frames := 0, cells := 0, slots := 0, locals := 0 } : Room) (va_Pc [Value.ref h1, Value.int (nI i)] (fun U => U.heap.size = sz ∧ va_P (dC, dI) classes (wp [oX9 h1 po pp ps pa pe pb pv pk pu pw pq pt un fw, oX4 pv ek ef ew ep es (nI n) sy dn, cI aC pa 8 yf, cA aC po 8 fo, cA aC pp 8 fp] (va_pl L (plE aC g))) U.heap ∧ va_K (dC, dI) classes (TY aC) U ∧ va_D (fun _ => True) (wp [oX9 h1 po pp ps pa pe pb pv pk pu pw pq pt un fw, oX4 pv ek ef ew ep es (nI n) sy dn, cI aC pa 8 yf, cA aC po 8 fo, cA aC pp 8 fp] (va_pl L (plE aC g))) ∧ NX U)) (va_Qv (fun (yg : Nat → Int32) => (∀ b, b < 32 → bt (yg i) b = decide (b = i ∨ (i < b ∧ b < n ∧ Pq b ≤ O b))) ∧ ∀ q, q ≠ i → yg q = yf q) (fun (yg : Nat → Int32) (t : State) => va_P (dC, dI) classes (wp [oX9 h1 po pp ps pa pe pb pv pk pu pw pq pt un fw, oX4 pv ek ef ew ep es (nI n) sy dn, cI aC pa 8 yg, cA aC po 8 fo, cA aC pp 8 fp] (va_pl L (plE aC g))) t.heap ∧ va_K (dC, dI) classes (TY aC) t ∧ va_D (va_A (wp [oX9 h1 po pp ps pa pe pb pv pk pu pw pq pt un fw, oX4 pv ek ef ew ep es (nI n) sy dn, cI aC pa 8 yf, cA aC po 8 fo, cA aC pp 8 fp] (va_pl L (plE aC g))) sz) (wp [oX9 h1 po pp ps pa pe pb pv pk pu pw pq pt un fw, oX4 pv ek ef ew ep es (nI n) sy dn, cI aC pa 8 yg, cA aC po 8 fo, cA aC pp 8 fp] (va_pl L (plE aC g)))) (va_A (wp [oX9 h1 po pp ps pa pe pb pv pk pu pw pq pt un fw, oX4 pv ek ef ew ep es (nI n) sy dn, cI aC pa 8 yf, cA aC po 8 fo, cA aC pp 8 fp] (va_pl L (plE aC g))) sz)) 0 0 (va_A (wp [oX9 h1 po pp ps pa pe pb pv pk pu pw pq pt un fw, oX4 pv ek ef ew ep es (nI n) sy dn, cI aC pa 8 yf, cA aC po 8 fo, cA aC pp 8 fp] (va_pl L (plE aC g))) sz) := by
  refine Met.ofW (cc := cX9_vote) (maxL := 3) (ret := (none : Option FieldType)) (by decide) rfl ?_
  intro p e s m args below meth c s₁ B hml hv
  obtain ⟨rfl, hsz, hP, hK, hD0, hN⟩ := hv
  have hx := B.exec
  have hb := B.bytes
  have hr := B.returns
  have hts0 := atoms_spec (ws := (wW yX9_vote cX9_vote 3 (none : Option FieldType))) B.pre
  have hts : ∀ w9 ∈ lw_G, w9.before ([Value.ref h1, Value.int (nI i)] : List Value).toArray s = true := fun w9 h9 => hts0 w9 (List.mem_cons_of_mem _ h9)
  have hown : s.vm.findClass RX9 = some m.cls := findClass_of_methodNamed (x := yX9_vote) B.named
  have hlocks := B.notSynchronized
  subst hsz
  have hD := hD0.self (sz := s.heap.size)
  generalize hAe : va_A (wp [oX9 h1 po pp ps pa pe pb pv pk pu pw pq pt un fw, oX4 pv ek ef ew ep es (nI n) sy dn, cI aC pa 8 yf, cA aC po 8 fo, cA aC pp 8 fp] (va_pl L (plE aC g))) s.heap.size = A at hD ⊢
  have hA : ∀ q : Nat, s.heap.size ≤ q → A q := fun q h => by rw [← hAe]; exact Or.inr h
  obtain ⟨H, hHe⟩ : ∃ H : Heap, H = s.heap := ⟨_, rfl⟩
  have hS : va_S A s.heap H [] := by rw [hHe]; exact va_S.rf
  have hP : va_P (dC, dI) classes (wp [oX9 h1 po pp ps pa pe pb pv pk pu pw pq pt un fw, oX4 pv ek ef ew ep es (nI n) sy dn, cI aC pa 8 yf, cA aC po 8 fo, cA aC pp 8 fp] (va_pl L (plE aC g))) H := by rw [hHe]; exact hP
  have hl := lv_entry ([Value.ref h1, Value.int (nI i)]) (n := 3) (Nat.le_of_ble_eq_true rfl)
  rw [lg_entry_eq]
  generalize (lg_sl ([Value.ref h1, Value.int (nI i)]) ++ List.replicate (3 - (lg_sl ([Value.ref h1, Value.int (nI i)])).length) Slot.unset).toArray = ls at hl ⊢
  have hl : lv_has ls 3 [(0, Value.ref h1), (1, Value.int (nI i))] := hl
  rw [← hHe]
  refine lv_aload_n hx hb dX9_vote_0 rfl (lv_at hl 0 rfl) ?_
  refine va_get (D := (dC, dI)) (ci := 9) (v := Value.ref pa) (C := RX9) (T := TX9) (N := 14) hx hb hts inX9 hown hK hP 0 rfl rfl 3 (by decide) (hts _ (gw kw_156 rfl)) (fun _ h9 => h9) rfl dX9_vote_1 ?_
  refine lv_iload_n hx hb dX9_vote_4 rfl (lv_at hl 1 rfl) ?_
  refine lv_iconst (v := 1) hx hb dX9_vote_5 (by decide) ?_
  refine lv_iload_n hx hb dX9_vote_6 rfl (lv_at hl 1 rfl) ?_
  refine lv_ishl hx hb dX9_vote_7 ?_
  refine lv_topi (fun x_1 e_1 => ?_)
  have h_2 : vp_in (nI i) 8 := by first | exact vp_in_nI (by omega) (by omega) | (unfold vp_in; decide) | (subst_vars; first | (unfold vp_in; decide) | exact vp_in_nI (by omega) (by omega))
  refine va_iast hx hb hK hP hD hS 2 0 rfl rfl h_2 dX9_vote_8 (fun H locs hP hD hS => ?_)
  obtain ⟨f_3, e_f_3⟩ : ∃ y : Nat → Int32, y = upd yf (nI i : Int32).toNatClampNeg x_1 := ⟨_, rfl⟩
  have hpd9 : PDx (dC, dI) classes A H (wp [oX9 h1 po pp ps pa pe pb pv pk pu pw pq pt un fw, oX4 pv ek ef ew ep es (nI n) sy dn, cI aC pa 8 f_3, cA aC po 8 fo, cA aC pp 8 fp] (va_pl L (plE aC g))) := by rw [e_f_3]; exact ⟨hP, hD⟩
  have hP := hpd9.1
  have hD := hpd9.2
  clear hpd9
  refine lv_iload_n hx hb dX9_vote_9 rfl (lv_at hl 1 rfl) ?_
  refine lv_iconst (v := 1) hx hb dX9_vote_10 (by decide) ?_
  refine lv_iadd hx hb dX9_vote_11 ?_
  refine lv_topi (fun x_4 e_4 => ?_)
  refine lv_istore_n (lv' := [(2, Value.int x_4), (0, Value.ref h1), (1, Value.int (nI i))]) hx hb dX9_vote_12 rfl hl (by decide) rfl (fun ls hl => ?_)
  have h9 : x_4 = nI (i + 1) := by rw [e_4, nI_1]
  subst h9
  have hy10 := vt_0 (y := f_3 i) (n := n) (P := Pq) (O := O) (i := i) (by omega) (by rw [e_f_3, nI_clamp (by omega), pk_us]; exact e_1)
  have hy20 : ∀ q, q ≠ i → f_3 q = yf q := fun q h => by rw [e_f_3, nI_clamp (by omega), pk_un h]
  have lp_13 : ∀ (fu : Nat) (j : Nat) (yc : Nat → Int32) (hfu : n - j < fu) (hj : i < j ∧ j ≤ n) (hy1 : ∀ b, b < 32 → bt (yc i) b = decide (b = i ∨ (i < b ∧ b < j ∧ Pq b ≤ O b))) (hy2 : ∀ q, q ≠ i → yc q = yf q) (H : Heap) (locs : List Loc) (ls : Array Slot), va_P (dC, dI) classes (wp [oX9 h1 po pp ps pa pe pb pv pk pu pw pq pt un fw, oX4 pv ek ef ew ep es (nI n) sy dn, cI aC pa 8 yc, cA aC po 8 fo, cA aC pp 8 fp] (va_pl L (plE aC g))) H → va_D A (wp [oX9 h1 po pp ps pa pe pb pv pk pu pw pq pt un fw, oX4 pv ek ef ew ep es (nI n) sy dn, cI aC pa 8 yc, cA aC po 8 fo, cA aC pp 8 fp] (va_pl L (plE aC g))) → va_S A s.heap H locs → lv_has ls 3 [(0, Value.ref h1), (1, Value.int (nI i)), (2, Value.int (nI j))] → W p l e (headSpec (wW yX9_vote cX9_vote 3 (none : Option FieldType)) ({ frames := 0, cells := 0, slots := 0, locals := 0 } : Room)).room s m ([Value.ref h1, Value.int (nI i)] : List Value).toArray below meth c H locs 0 0 (MQ below (va_Qv (fun (yg : Nat → Int32) => (∀ b, b < 32 → bt (yg i) b = decide (b = i ∨ (i < b ∧ b < n ∧ Pq b ≤ O b))) ∧ ∀ q, q ≠ i → yg q = yf q) (fun (yg : Nat → Int32) (t : State) => va_P (dC, dI) classes (wp [oX9 h1 po pp ps pa pe pb pv pk pu pw pq pt un fw, oX4 pv ek ef ew ep es (nI n) sy dn, cI aC pa 8 yg, cA aC po 8 fo, cA aC pp 8 fp] (va_pl L (plE aC g))) t.heap ∧ va_K (dC, dI) classes (TY aC) t ∧ va_D A (wp [oX9 h1 po pp ps pa pe pb pv pk pu pw pq pt un fw, oX4 pv ek ef ew ep es (nI n) sy dn, cI aC pa 8 yg, cA aC po 8 fo, cA aC pp 8 fp] (va_pl L (plE aC g)))) A) ([Value.ref h1, Value.int (nI i)] : List Value).toArray s 0 0 A) (F0 m 13 ls []) := by
    intro fu
    induction fu with
    | zero => intro j yc hfu; exact absurd hfu (Nat.not_lt_zero _)
    | succ fu ih_13 =>
      intro j yc hfu hj hy1 hy2 H locs ls hP hD hS hl
      refine lv_iload_n hx hb dX9_vote_13 rfl (lv_at hl 2 rfl) ?_
      refine lv_aload_n hx hb dX9_vote_14 rfl (lv_at hl 0 rfl) ?_
      refine va_get (D := (dC, dI)) (ci := 9) (v := Value.ref pv) (C := RX9) (T := TX9) (N := 14) hx hb hts inX9 hown hK hP 0 rfl rfl 6 (by decide) (hts _ (gw kw_162 rfl)) (fun _ h9 => h9) rfl dX9_vote_15 ?_
      refine va_get (D := (dC, dI)) (ci := 4) (v := Value.int (nI n)) (C := RX4) (T := TX4) (N := 8) hx hb hts inX4 hown hK hP 1 rfl rfl 5 (by decide) (hts _ (gw kw_47 rfl)) (fun _ h9 => h9) rfl dX9_vote_18 ?_
      refine lv_icmp_ge (tgt := 61) hx hb dX9_vote_21 (by decide) (fun c_5 => ?_) (fun c_5 => ?_)
      · have hjn : j = n := by
          rcases Nat.lt_or_ge j n with q | q
          · exact absurd c_5 (nI_ge q (by omega))
          · omega
        have hpd9 := pd_P (cx := [oX9 h1 po pp ps pa pe pb pv pk pu pw pq pt un fw, oX4 pv ek ef ew ep es (nI n) sy dn, cI aC pa 8 yc, cA aC po 8 fo, cA aC pp 8 fp]) hP hD [0, 1, 2, 3, 4] (by decide) rfl
        have hP9 := hpd9.1
        have hD9 := hpd9.2
        refine W.widen (k := 0) (n := 0) (by omega) (by omega) ?_
        exact W.vret hx hb hr (fun t ht hW => ⟨⟨(yc), rfl, ⟨fun b hb => by rw [hy1 b hb, hjn], hy2⟩, by rw [ht]; exact hP9, va_K.moved hW.alike hK, hD9⟩, hS.F ht⟩) hS.2.2 dX9_vote_61
      · have hlt : j < n := by
          rcases Nat.lt_or_ge j n with q | q
          · exact q
          · exact absurd (nI_le q (by omega)) c_5
        obtain ⟨ho1, ho2⟩ := hO j (by omega)
        obtain ⟨hp1, hp2⟩ := hPq j hj.1 hlt
        refine lv_aload_n hx hb dX9_vote_24 rfl (lv_at hl 0 rfl) ?_
        refine va_get (D := (dC, dI)) (ci := 9) (v := Value.ref po) (C := RX9) (T := TX9) (N := 14) hx hb hts inX9 hown hK hP 0 rfl rfl 0 (by decide) (hts _ (gw kw_150 rfl)) (fun _ h9 => h9) rfl dX9_vote_25 ?_
        refine lv_iload_n hx hb dX9_vote_28 rfl (lv_at hl 1 rfl) ?_
        have h_6 : vp_in (nI i) 8 := by first | exact vp_in_nI (by omega) (by omega) | (unfold vp_in; decide) | (subst_vars; first | (unfold vp_in; decide) | exact vp_in_nI (by omega) (by omega))
        refine va_alda (r := ro i) hx hb hK hP 3 rfl h_6 (by rw [nI_clamp (by omega)]; exact (hgr.1 i (by omega)).1.1) dX9_vote_29 ?_
        refine lv_iload_n hx hb dX9_vote_30 rfl (lv_at hl 2 rfl) ?_
        have h_7 : vp_in (nI j) 8 := by first | exact vp_in_nI (by omega) (by omega) | (unfold vp_in; decide) | (subst_vars; first | (unfold vp_in; decide) | exact vp_in_nI (by omega) (by omega))
        refine pl_iald hx hb hK hP ((hgr.1 i (by omega)).1.2) h_7 dX9_vote_31 ?_
        refine lv_topi (fun x_8 e_8 => ?_)
        have h9 : x_8 = nI (O j) := by rw [e_8, nI_clamp (by omega)]; exact ho1
        subst h9
        refine lv_aload_n hx hb dX9_vote_32 rfl (lv_at hl 0 rfl) ?_
        refine va_get (D := (dC, dI)) (ci := 9) (v := Value.ref pp) (C := RX9) (T := TX9) (N := 14) hx hb hts inX9 hown hK hP 0 rfl rfl 1 (by decide) (hts _ (gw kw_152 rfl)) (fun _ h9 => h9) rfl dX9_vote_33 ?_
        refine lv_iload_n hx hb dX9_vote_36 rfl (lv_at hl 1 rfl) ?_
        have h_9 : vp_in (nI i) 8 := by first | exact vp_in_nI (by omega) (by omega) | (unfold vp_in; decide) | (subst_vars; first | (unfold vp_in; decide) | exact vp_in_nI (by omega) (by omega))
        refine va_alda (r := rp i) hx hb hK hP 4 rfl h_9 (by rw [nI_clamp (by omega)]; exact (hgr.1 i (by omega)).2.1.1) dX9_vote_37 ?_
        refine lv_iload_n hx hb dX9_vote_38 rfl (lv_at hl 2 rfl) ?_
        have h_10 : vp_in (nI j) 8 := by first | exact vp_in_nI (by omega) (by omega) | (unfold vp_in; decide) | (subst_vars; first | (unfold vp_in; decide) | exact vp_in_nI (by omega) (by omega))
        refine pl_iald hx hb hK hP ((hgr.1 i (by omega)).2.1.2) h_10 dX9_vote_39 ?_
        refine lv_topi (fun x_11 e_11 => ?_)
        have h9 : x_11 = nI (Pq j) := by rw [e_11, nI_clamp (by omega)]; exact hp1
        subst h9
        refine lv_icmp_lt (tgt := 55) hx hb dX9_vote_40 (by decide) (fun c_12 => ?_) (fun c_12 => ?_)
        · have hno : ¬ Pq j ≤ O j := fun q => by
            have := (nI_ltI (by omega) (by omega)).mp c_12
            omega
          have hb1 := vt_n hy1 hno
          have hb2 := hy2
          obtain ⟨x_13, e_13⟩ : ∃ y : Int32, y = (nI j) + 1 := ⟨_, rfl⟩
          refine lv_iinc (v := x_13) (lv' := [(2, Value.int x_13), (0, Value.ref h1), (1, Value.int (nI i))]) hx hb dX9_vote_55 hl (k := 2) rfl (by rw [e_13]; rfl) (by decide) rfl (fun ls hl => ?_)
          have h9 : x_13 = nI (j + 1) := by rw [e_13, nI_1]
          subst h9
          refine lv_goto (tgt := 13) hx hb dX9_vote_58 (by decide) ?_
          exact ih_13 (j + 1) yc (ms_lt hlt hfu) (by omega) (hb1) (hb2) _ _ _ (plP hP [0, 1, 2, 3, 4] rfl) (plD hD [0, 1, 2, 3, 4] (by decide) rfl) hS (lv_sub hl [1, 2, 0] rfl)
        · refine lv_aload_n hx hb dX9_vote_43 rfl (lv_at hl 0 rfl) ?_
          refine va_get (D := (dC, dI)) (ci := 9) (v := Value.ref pa) (C := RX9) (T := TX9) (N := 14) hx hb hts inX9 hown hK hP 0 rfl rfl 3 (by decide) (hts _ (gw kw_156 rfl)) (fun _ h9 => h9) rfl dX9_vote_44 ?_
          refine lv_iload_n hx hb dX9_vote_47 rfl (lv_at hl 1 rfl) ?_
          refine lv_dup2_11 hx hb dX9_vote_48 rfl rfl ?_
          have h_14 : vp_in (nI i) 8 := by first | exact vp_in_nI (by omega) (by omega) | (unfold vp_in; decide) | (subst_vars; first | (unfold vp_in; decide) | exact vp_in_nI (by omega) (by omega))
          refine va_iald hx hb hK hP 2 0 rfl rfl h_14 dX9_vote_49 ?_
          refine lv_topi (fun x_15 e_15 => ?_)
          refine lv_iconst (v := 1) hx hb dX9_vote_50 (by decide) ?_
          refine lv_iload_n hx hb dX9_vote_51 rfl (lv_at hl 2 rfl) ?_
          refine lv_ishl hx hb dX9_vote_52 ?_
          refine lv_topi (fun x_16 e_16 => ?_)
          refine lv_ior hx hb dX9_vote_53 ?_
          refine lv_topi (fun x_17 e_17 => ?_)
          have h_18 : vp_in (nI i) 8 := by first | exact vp_in_nI (by omega) (by omega) | (unfold vp_in; decide) | (subst_vars; first | (unfold vp_in; decide) | exact vp_in_nI (by omega) (by omega))
          refine va_iast hx hb hK hP hD hS 2 0 rfl rfl h_18 dX9_vote_54 (fun H locs hP hD hS => ?_)
          obtain ⟨f_19, e_f_19⟩ : ∃ y : Nat → Int32, y = upd yc (nI i : Int32).toNatClampNeg x_17 := ⟨_, rfl⟩
          have hpd9 : PDx (dC, dI) classes A H (wp [oX9 h1 po pp ps pa pe pb pv pk pu pw pq pt un fw, oX4 pv ek ef ew ep es (nI n) sy dn, cI aC pa 8 f_19, cA aC po 8 fo, cA aC pp 8 fp] (va_pl L (plE aC g))) := by rw [e_f_19]; exact ⟨hP, hD⟩
          have hP := hpd9.1
          have hD := hpd9.2
          clear hpd9
          have hyes : Pq j ≤ O j := by
            rcases Nat.lt_or_ge (O j) (Pq j) with q | q
            · exact absurd (nI_lt q (by omega)) c_12
            · exact q
          have hb1 := vt_y (y := f_19 i) ⟨hj.1, by omega⟩ hy1 (by rw [e_f_19, nI_clamp (by omega), pk_us, e_17, e_16, e_15, nI_clamp (by omega)]) hyes
          have hb2 : ∀ q, q ≠ i → f_19 q = yf q := fun q h => by rw [e_f_19, nI_clamp (by omega), pk_un h]; exact hy2 q h
          obtain ⟨x_20, e_20⟩ : ∃ y : Int32, y = (nI j) + 1 := ⟨_, rfl⟩
          refine lv_iinc (v := x_20) (lv' := [(2, Value.int x_20), (0, Value.ref h1), (1, Value.int (nI i))]) hx hb dX9_vote_55 hl (k := 2) rfl (by rw [e_20]; rfl) (by decide) rfl (fun ls hl => ?_)
          have h9 : x_20 = nI (j + 1) := by rw [e_20, nI_1]
          subst h9
          refine lv_goto (tgt := 13) hx hb dX9_vote_58 (by decide) ?_
          exact ih_13 (j + 1) f_19 (ms_lt hlt hfu) (by omega) (hb1) (hb2) _ _ _ (plP hP [0, 1, 2, 3, 4] rfl) (plD hD [0, 1, 2, 3, 4] (by decide) rfl) hS (lv_sub hl [1, 2, 0] rfl)
  exact lp_13 ((n - (i + 1)) + 1) (i + 1) f_3 (Nat.lt_succ_self _) (by omega) (hy10) (hy20) _ _ _ (plP hP [0, 1, 2, 3, 4] rfl) (plD hD [0, 1, 2, 3, 4] (by decide) rfl) hS (lv_sub hl [1, 2, 0] rfl)

set_option maxHeartbeats 1000000 in
set_option maxRecDepth 100000 in
/-- X4_weightFrom -/
theorem c_X4_weightFrom (l : Launch) (dC : Nat → ClassId) (dI : Nat → Nat → Nat) (aC : Nat → ClassId) (sz : Nat) (h1 : Nat) (ek : Nat) (ef : Nat) (ew : Nat) (ep : Nat) (es : Nat) (n : Nat) (sy : Int32) (dn : Int32) (wf : Nat → Int32) (W0 : Nat → Nat) (i : Nat) (hw : n ≤ 8 ∧ ∀ j, j < n → wf j = nI (W0 j) ∧ W0 j ≤ 9) (hi : i ≤ n) : Met l yX4_weightFrom (wW yX4_weightFrom cX4_weightFrom 4 (some .int)) ({ frames := 1, cells := 0, slots := 0, locals := 13 } : Room) (va_Pc [Value.ref h1, Value.int (nI i)] (fun U => U.heap.size = sz ∧ va_P (dC, dI) classes [oX4 h1 ek ef ew ep es (nI n) sy dn, cI aC ew 8 wf] U.heap ∧ va_K (dC, dI) classes (TY aC) U ∧ va_D (fun _ => True) [oX4 h1 ek ef ew ep es (nI n) sy dn, cI aC ew 8 wf] ∧ NX U)) (va_Qi (fun (r : Int32) (_ : Unit) => r = nI (sumr W0 i (n - i))) (fun (_ : Unit) (t : State) => va_P (dC, dI) classes [oX4 h1 ek ef ew ep es (nI n) sy dn, cI aC ew 8 wf] t.heap ∧ va_K (dC, dI) classes (TY aC) t ∧ va_D (va_A [oX4 h1 ek ef ew ep es (nI n) sy dn, cI aC ew 8 wf] sz) [oX4 h1 ek ef ew ep es (nI n) sy dn, cI aC ew 8 wf]) (va_A [oX4 h1 ek ef ew ep es (nI n) sy dn, cI aC ew 8 wf] sz)) 0 0 (va_A [oX4 h1 ek ef ew ep es (nI n) sy dn, cI aC ew 8 wf] sz) := by
  refine Met.ofW (cc := cX4_weightFrom) (maxL := 4) (ret := (some .int)) (by decide) rfl ?_
  intro p e s m args below meth c s₁ B hml hv
  obtain ⟨rfl, hsz, hP, hK, hD0, hN⟩ := hv
  have hx := B.exec
  have hb := B.bytes
  have hr := B.returns
  have hts0 := atoms_spec (ws := (wW yX4_weightFrom cX4_weightFrom 4 (some .int))) B.pre
  have hts : ∀ w9 ∈ lw_G, w9.before ([Value.ref h1, Value.int (nI i)] : List Value).toArray s = true := fun w9 h9 => hts0 w9 (List.mem_cons_of_mem _ h9)
  have hown : s.vm.findClass RX4 = some m.cls := findClass_of_methodNamed (x := yX4_weightFrom) B.named
  have hlocks := B.notSynchronized
  subst hsz
  have hD := hD0.self (sz := s.heap.size)
  generalize hAe : va_A [oX4 h1 ek ef ew ep es (nI n) sy dn, cI aC ew 8 wf] s.heap.size = A at hD ⊢
  have hA : ∀ q : Nat, s.heap.size ≤ q → A q := fun q h => by rw [← hAe]; exact Or.inr h
  obtain ⟨H, hHe⟩ : ∃ H : Heap, H = s.heap := ⟨_, rfl⟩
  have hS : va_S A s.heap H [] := by rw [hHe]; exact va_S.rf
  have hP : va_P (dC, dI) classes [oX4 h1 ek ef ew ep es (nI n) sy dn, cI aC ew 8 wf] H := by rw [hHe]; exact hP
  have hl := lv_entry ([Value.ref h1, Value.int (nI i)]) (n := 4) (Nat.le_of_ble_eq_true rfl)
  rw [lg_entry_eq]
  generalize (lg_sl ([Value.ref h1, Value.int (nI i)]) ++ List.replicate (4 - (lg_sl ([Value.ref h1, Value.int (nI i)])).length) Slot.unset).toArray = ls at hl ⊢
  have hl : lv_has ls 4 [(0, Value.ref h1), (1, Value.int (nI i))] := hl
  rw [← hHe]
  refine lv_iconst (v := 0) hx hb dX4_weightFrom_0 (by decide) ?_
  refine lv_topi (fun x_1 e_1 => ?_)
  have h9 : x_1 = nI (sumr W0 i (i - i)) := by rw [e_1, Nat.sub_self]; rfl
  subst h9
  refine lv_istore_n (lv' := [(2, Value.int (nI (sumr W0 i (i - i)))), (0, Value.ref h1), (1, Value.int (nI i))]) hx hb dX4_weightFrom_1 rfl hl (by decide) rfl (fun ls hl => ?_)
  refine lv_iconst (v := 0) hx hb dX4_weightFrom_2 (by decide) ?_
  refine lv_iload_n hx hb dX4_weightFrom_3 rfl (lv_at hl 2 rfl) ?_
  refine va_mmax hx hb (by rw [hml]; exact hl.1.symm) hown (hts _ (gw kw_466 rfl)) (hts _ (gw kw_374 rfl)) (hts _ (gw kw_14 rfl)) (hts _ (gw kw_375 rfl)) (Nat.le_of_ble_eq_true rfl) (Nat.le_of_ble_eq_true rfl) (Nat.zero_le _) (Nat.zero_le _) dX4_weightFrom_4 ?_
  refine lv_topi (fun x_2 e_2 => ?_)
  have h9 : x_2 = nI i := by rw [e_2]; exact max0_n (by omega)
  subst h9
  refine lv_istore_n (lv' := [(3, Value.int (nI i)), (2, Value.int (nI (sumr W0 i (i - i)))), (0, Value.ref h1), (1, Value.int (nI i))]) hx hb dX4_weightFrom_7 rfl hl (by decide) rfl (fun ls hl => ?_)
  have lp_8 : ∀ (fu : Nat) (j : Nat) (hfu : n - j < fu) (hj : i ≤ j ∧ j ≤ n) (H : Heap) (locs : List Loc) (ls : Array Slot), va_P (dC, dI) classes [oX4 h1 ek ef ew ep es (nI n) sy dn, cI aC ew 8 wf] H → va_D A [oX4 h1 ek ef ew ep es (nI n) sy dn, cI aC ew 8 wf] → va_S A s.heap H locs → lv_has ls 4 [(0, Value.ref h1), (1, Value.int (nI i)), (2, Value.int (nI (sumr W0 i (j - i)))), (3, Value.int (nI j))] → W p l e (headSpec (wW yX4_weightFrom cX4_weightFrom 4 (some .int)) ({ frames := 1, cells := 0, slots := 0, locals := 13 } : Room)).room s m ([Value.ref h1, Value.int (nI i)] : List Value).toArray below meth c H locs 0 0 (MQ below (va_Qi (fun (r : Int32) (_ : Unit) => r = nI (sumr W0 i (n - i))) (fun (_ : Unit) (t : State) => va_P (dC, dI) classes [oX4 h1 ek ef ew ep es (nI n) sy dn, cI aC ew 8 wf] t.heap ∧ va_K (dC, dI) classes (TY aC) t ∧ va_D A [oX4 h1 ek ef ew ep es (nI n) sy dn, cI aC ew 8 wf]) A) ([Value.ref h1, Value.int (nI i)] : List Value).toArray s 0 0 A) (F0 m 8 ls []) := by
    intro fu
    induction fu with
    | zero => intro j hfu; exact absurd hfu (Nat.not_lt_zero _)
    | succ fu ih_8 =>
      intro j hfu hj H locs ls hP hD hS hl
      refine lv_iload_n hx hb dX4_weightFrom_8 rfl (lv_at hl 3 rfl) ?_
      refine lv_aload_n hx hb dX4_weightFrom_9 rfl (lv_at hl 0 rfl) ?_
      refine va_get (D := (dC, dI)) (ci := 4) (v := Value.int (nI n)) (C := RX4) (T := TX4) (N := 8) hx hb hts inX4 hown hK hP 0 rfl rfl 5 (by decide) (hts _ (gw kw_48 rfl)) (fun _ h9 => h9) rfl dX4_weightFrom_10 ?_
      refine lv_icmp_ge (tgt := 31) hx hb dX4_weightFrom_13 (by decide) (fun c_3 => ?_) (fun c_3 => ?_)
      · have hjn : j = n := by
          rcases Nat.lt_or_ge j n with q | q
          · exact absurd c_3 (nI_ge q (by omega))
          · omega
        refine lv_iload_n hx hb dX4_weightFrom_31 rfl (lv_at hl 2 rfl) ?_
        have hpd9 := pd_N (cx := [oX4 h1 ek ef ew ep es (nI n) sy dn, cI aC ew 8 wf]) hP hD [0, 1] (by decide) rfl
        have hP9 := hpd9.1
        have hD9 := hpd9.2
        refine W.widen (k := 0) (n := 0) (by omega) (by omega) ?_
        exact W.iret (v := nI (sumr W0 i (j - i))) hx hb hr (fun t ht hW => ⟨⟨(nI (sumr W0 i (j - i))), (), rfl, by rw [hjn], by rw [ht]; exact hP9, va_K.moved hW.alike hK, hD9⟩, hS.F ht⟩) hS.2.2 dX4_weightFrom_32
      · have hlt : j < n := by
          rcases Nat.lt_or_ge j n with q | q
          · exact q
          · exact absurd (nI_le q (by omega)) c_3
        refine lv_iload_n hx hb dX4_weightFrom_16 rfl (lv_at hl 2 rfl) ?_
        refine lv_aload_n hx hb dX4_weightFrom_17 rfl (lv_at hl 0 rfl) ?_
        refine va_get (D := (dC, dI)) (ci := 4) (v := Value.ref ew) (C := RX4) (T := TX4) (N := 8) hx hb hts inX4 hown hK hP 0 rfl rfl 2 (by decide) (hts _ (gw kw_38 rfl)) (fun _ h9 => h9) rfl dX4_weightFrom_18 ?_
        refine lv_iload_n hx hb dX4_weightFrom_21 rfl (lv_at hl 3 rfl) ?_
        have h_4 : vp_in (nI j) 8 := by first | exact vp_in_nI (by omega) (by omega) | (unfold vp_in; decide) | (subst_vars; first | (unfold vp_in; decide) | exact vp_in_nI (by omega) (by omega))
        refine va_iald hx hb hK hP 1 0 rfl rfl h_4 dX4_weightFrom_22 ?_
        refine lv_topi (fun x_5 e_5 => ?_)
        have h9 : x_5 = nI (W0 j) := by rw [e_5, nI_clamp (by omega)]; exact (hw.2 j hlt).1
        subst h9
        refine lv_iadd hx hb dX4_weightFrom_23 ?_
        refine lv_topi (fun x_6 e_6 => ?_)
        have h9 : x_6 = nI (sumr W0 i (j + 1 - i)) := by rw [e_6, nI_add, sumr_suc hj.1]
        subst h9
        refine lv_istore_n (lv' := [(2, Value.int (nI (sumr W0 i (j + 1 - i)))), (0, Value.ref h1), (1, Value.int (nI i)), (3, Value.int (nI j))]) hx hb dX4_weightFrom_24 rfl hl (by decide) rfl (fun ls hl => ?_)
        obtain ⟨x_7, e_7⟩ : ∃ y : Int32, y = (nI j) + 1 := ⟨_, rfl⟩
        refine lv_iinc (v := x_7) (lv' := [(3, Value.int x_7), (2, Value.int (nI (sumr W0 i (j + 1 - i)))), (0, Value.ref h1), (1, Value.int (nI i))]) hx hb dX4_weightFrom_25 hl (k := 3) rfl (by rw [e_7]; rfl) (by decide) rfl (fun ls hl => ?_)
        have h9 : x_7 = nI (j + 1) := by rw [e_7, nI_1]
        subst h9
        refine lv_goto (tgt := 8) hx hb dX4_weightFrom_28 (by decide) ?_
        exact ih_8 (j + 1) (ms_lt hlt hfu) (by omega) _ _ _ (hP.sub [0, 1] rfl) (hD.sub [0, 1] (by decide) rfl) hS (lv_sub hl [2, 3, 1, 0] rfl)
  exact lp_8 ((n - i) + 1) i (Nat.lt_succ_self _) (by omega) _ _ _ (hP.sub [0, 1] rfl) (hD.sub [0, 1] (by decide) rfl) hS (lv_sub hl [2, 3, 1, 0] rfl)

set_option maxHeartbeats 1000000 in
set_option maxRecDepth 100000 in
/-- X4_isCarried -/
theorem c_X4_isCarried (l : Launch) (dC : Nat → ClassId) (dI : Nat → Nat → Nat) (aC : Nat → ClassId) (sz : Nat) (h1 : Nat) (ek : Nat) (ef : Nat) (ew : Nat) (ep : Nat) (es : Nat) (n : Nat) (sy : Int32) (dn : Int32) (wf : Nat → Int32) (stf : Nat → Int32) (W0 : Nat → Nat) (i : Nat) (y : Int32) (hw : n ≤ 8 ∧ ∀ j, j < n → wf j = nI (W0 j) ∧ W0 j ≤ 9) (hi : i ≤ n) : Met l yX4_isCarried (wW yX4_isCarried cX4_isCarried 5 (some .boolean)) ({ frames := 2, cells := 0, slots := 0, locals := 36 } : Room) (va_Pc [Value.ref h1, Value.int (nI i), Value.int y] (fun U => U.heap.size = sz ∧ va_P (dC, dI) classes [oX4 h1 ek ef ew ep es (nI n) sy dn, cI aC ew 8 wf, cI aC es 5 stf] U.heap ∧ va_K (dC, dI) classes (TY aC) U ∧ va_D (fun _ => True) [oX4 h1 ek ef ew ep es (nI n) sy dn, cI aC ew 8 wf, cI aC es 5 stf] ∧ NX U)) (va_Qi (fun (r : Int32) (_ : Unit) => r = if nd (stf 1) (sumr W0 i (n - i)) ≤ yw W0 y i (n - i) then 1 else 0) (fun (_ : Unit) (t : State) => va_P (dC, dI) classes [oX4 h1 ek ef ew ep es (nI n) sy dn, cI aC ew 8 wf, cI aC es 5 stf] t.heap ∧ va_K (dC, dI) classes (TY aC) t ∧ va_D (va_A [oX4 h1 ek ef ew ep es (nI n) sy dn, cI aC ew 8 wf, cI aC es 5 stf] sz) [oX4 h1 ek ef ew ep es (nI n) sy dn, cI aC ew 8 wf, cI aC es 5 stf]) (va_A [oX4 h1 ek ef ew ep es (nI n) sy dn, cI aC ew 8 wf, cI aC es 5 stf] sz)) 0 0 (va_A [oX4 h1 ek ef ew ep es (nI n) sy dn, cI aC ew 8 wf, cI aC es 5 stf] sz) := by
  refine Met.ofW (cc := cX4_isCarried) (maxL := 5) (ret := (some .boolean)) (by decide) rfl ?_
  intro p e s m args below meth c s₁ B hml hv
  obtain ⟨rfl, hsz, hP, hK, hD0, hN⟩ := hv
  have hx := B.exec
  have hb := B.bytes
  have hr := B.returns
  have hts0 := atoms_spec (ws := (wW yX4_isCarried cX4_isCarried 5 (some .boolean))) B.pre
  have hts : ∀ w9 ∈ lw_G, w9.before ([Value.ref h1, Value.int (nI i), Value.int y] : List Value).toArray s = true := fun w9 h9 => hts0 w9 (List.mem_cons_of_mem _ h9)
  have hown : s.vm.findClass RX4 = some m.cls := findClass_of_methodNamed (x := yX4_isCarried) B.named
  have hlocks := B.notSynchronized
  subst hsz
  have hD := hD0.self (sz := s.heap.size)
  generalize hAe : va_A [oX4 h1 ek ef ew ep es (nI n) sy dn, cI aC ew 8 wf, cI aC es 5 stf] s.heap.size = A at hD ⊢
  have hA : ∀ q : Nat, s.heap.size ≤ q → A q := fun q h => by rw [← hAe]; exact Or.inr h
  obtain ⟨H, hHe⟩ : ∃ H : Heap, H = s.heap := ⟨_, rfl⟩
  have hS : va_S A s.heap H [] := by rw [hHe]; exact va_S.rf
  have hP : va_P (dC, dI) classes [oX4 h1 ek ef ew ep es (nI n) sy dn, cI aC ew 8 wf, cI aC es 5 stf] H := by rw [hHe]; exact hP
  have hl := lv_entry ([Value.ref h1, Value.int (nI i), Value.int y]) (n := 5) (Nat.le_of_ble_eq_true rfl)
  rw [lg_entry_eq]
  generalize (lg_sl ([Value.ref h1, Value.int (nI i), Value.int y]) ++ List.replicate (5 - (lg_sl ([Value.ref h1, Value.int (nI i), Value.int y])).length) Slot.unset).toArray = ls at hl ⊢
  have hl : lv_has ls 5 [(0, Value.ref h1), (1, Value.int (nI i)), (2, Value.int y)] := hl
  rw [← hHe]
  refine lv_iconst (v := 0) hx hb dX4_isCarried_0 (by decide) ?_
  refine lv_topi (fun x_1 e_1 => ?_)
  have h9 : x_1 = nI (yw W0 y i (i - i)) := by rw [e_1, Nat.sub_self]; rfl
  subst h9
  refine lv_istore_n (lv' := [(3, Value.int (nI (yw W0 y i (i - i)))), (0, Value.ref h1), (1, Value.int (nI i)), (2, Value.int y)]) hx hb dX4_isCarried_1 rfl hl (by decide) rfl (fun ls hl => ?_)
  refine lv_iconst (v := 0) hx hb dX4_isCarried_2 (by decide) ?_
  refine lv_iload_n hx hb dX4_isCarried_3 rfl (lv_at hl 2 rfl) ?_
  refine va_mmax hx hb (by rw [hml]; exact hl.1.symm) hown (hts _ (gw kw_466 rfl)) (hts _ (gw kw_374 rfl)) (hts _ (gw kw_14 rfl)) (hts _ (gw kw_375 rfl)) (Nat.le_of_ble_eq_true rfl) (Nat.le_of_ble_eq_true rfl) (Nat.zero_le _) (Nat.zero_le _) dX4_isCarried_4 ?_
  refine lv_topi (fun x_2 e_2 => ?_)
  have h9 : x_2 = nI i := by rw [e_2]; exact max0_n (by omega)
  subst h9
  refine lv_istore (lv' := [(4, Value.int (nI i)), (3, Value.int (nI (yw W0 y i (i - i)))), (0, Value.ref h1), (1, Value.int (nI i)), (2, Value.int y)]) hx hb dX4_isCarried_7 hl (by decide) rfl (fun ls hl => ?_)
  have lp_9 : ∀ (fu : Nat) (j : Nat) (hfu : n - j < fu) (hj : i ≤ j ∧ j ≤ n) (H : Heap) (locs : List Loc) (ls : Array Slot), va_P (dC, dI) classes [oX4 h1 ek ef ew ep es (nI n) sy dn, cI aC ew 8 wf, cI aC es 5 stf] H → va_D A [oX4 h1 ek ef ew ep es (nI n) sy dn, cI aC ew 8 wf, cI aC es 5 stf] → va_S A s.heap H locs → lv_has ls 5 [(0, Value.ref h1), (1, Value.int (nI i)), (2, Value.int y), (3, Value.int (nI (yw W0 y i (j - i)))), (4, Value.int (nI j))] → W p l e (headSpec (wW yX4_isCarried cX4_isCarried 5 (some .boolean)) ({ frames := 2, cells := 0, slots := 0, locals := 36 } : Room)).room s m ([Value.ref h1, Value.int (nI i), Value.int y] : List Value).toArray below meth c H locs 0 0 (MQ below (va_Qi (fun (r : Int32) (_ : Unit) => r = if nd (stf 1) (sumr W0 i (n - i)) ≤ yw W0 y i (n - i) then 1 else 0) (fun (_ : Unit) (t : State) => va_P (dC, dI) classes [oX4 h1 ek ef ew ep es (nI n) sy dn, cI aC ew 8 wf, cI aC es 5 stf] t.heap ∧ va_K (dC, dI) classes (TY aC) t ∧ va_D A [oX4 h1 ek ef ew ep es (nI n) sy dn, cI aC ew 8 wf, cI aC es 5 stf]) A) ([Value.ref h1, Value.int (nI i), Value.int y] : List Value).toArray s 0 0 A) (F0 m 9 ls []) := by
    intro fu
    induction fu with
    | zero => intro j hfu; exact absurd hfu (Nat.not_lt_zero _)
    | succ fu ih_9 =>
      intro j hfu hj H locs ls hP hD hS hl
      refine lv_iload hx hb dX4_isCarried_9 (lv_at hl 4 rfl) ?_
      refine lv_aload_n hx hb dX4_isCarried_11 rfl (lv_at hl 0 rfl) ?_
      refine va_get (D := (dC, dI)) (ci := 4) (v := Value.int (nI n)) (C := RX4) (T := TX4) (N := 8) hx hb hts inX4 hown hK hP 0 rfl rfl 5 (by decide) (hts _ (gw kw_48 rfl)) (fun _ h9 => h9) rfl dX4_isCarried_12 ?_
      refine lv_icmp_ge (tgt := 44) hx hb dX4_isCarried_15 (by decide) (fun c_3 => ?_) (fun c_3 => ?_)
      · have hjn : j = n := by
          rcases Nat.lt_or_ge j n with q | q
          · exact absurd c_3 (nI_ge q (by omega))
          · omega
        refine lv_aload_n hx hb dX4_isCarried_44 rfl (lv_at hl 0 rfl) ?_
        refine va_get (D := (dC, dI)) (ci := 4) (v := Value.ref es) (C := RX4) (T := TX4) (N := 8) hx hb hts inX4 hown hK hP 0 rfl rfl 4 (by decide) (hts _ (gw kw_43 rfl)) (fun _ h9 => h9) rfl dX4_isCarried_45 ?_
        refine lv_iconst (v := 1) hx hb dX4_isCarried_48 (by decide) ?_
        have h_4 : vp_in 1 5 := by unfold vp_in; decide
        refine va_iald hx hb hK hP 2 0 rfl rfl h_4 dX4_isCarried_49 ?_
        refine lv_topi (fun x_5 e_5 => ?_)
        have h9 : x_5 = (stf 1) := by rw [e_5]; rfl
        subst h9
        refine lv_iload_n hx hb dX4_isCarried_50 rfl (lv_at hl 3 rfl) ?_
        refine lv_aload_n hx hb dX4_isCarried_51 rfl (lv_at hl 0 rfl) ?_
        refine lv_iload_n hx hb dX4_isCarried_52 rfl (lv_at hl 1 rfl) ?_
        have hpd9 := pdf_N (cx := [oX4 h1 ek ef ew ep es (nI n) sy dn, cI aC ew 8 wf]) hP hD hS hA [0, 1] (by decide) rfl
        have hPc := hpd9.1
        have hDc := hpd9.2.1
        have hFc := hpd9.2.2
        clear hpd9
        refine va_calli (va_runV (As := [Value.int (nI i)]) (rest := [Value.int (nI (yw W0 y i (j - i))), Value.int (stf 1)]) ⟨hx, hb, hml, hown, hts⟩ (c_X4_weightFrom l dC dI aC H.size h1 ek ef ew ep es n sy dn wf W0 i (hw) (hi)) ⟨(callB_of 1 hts (gG kw_465) rfl rfl rfl (hts _ (gw kw_2 rfl)) (hts _ (gw kw_482 rfl)) hd_X4_weightFrom ⟨Nat.le_of_ble_eq_true rfl, Nat.le_of_ble_eq_true rfl⟩), (hts _ (gw kw_463 rfl)), (hts _ (gw kw_464 rfl))⟩ ⟨fb_std, va_recv (q := (RX4, TX4, 8)) hK hPc (ci := 4) (q0 := 0) rfl rfl, pre_std hPc hK hDc hN⟩ rfl rfl hl.1 rfl (lv_room (Nat.le_of_ble_eq_true rfl)) dX4_isCarried_53 ⟨Nat.le_of_ble_eq_true rfl, Nat.le_of_ble_eq_true rfl⟩) hS (fun q _ h => hFc q h) hFc (fun x_6 u9 t9 H1 locs ht hvm hw_6 hB hz1 hk1 hS => ?_)
        obtain ⟨hP1, hK1, hD1⟩ := hB
        rw [ht] at hP1
        clear hK1
        try dsimp only at hw_6
        have hpd9 : PDx (dC, dI) classes A H1 [cI aC es 5 stf, oX4 h1 ek ef ew ep es (nI n) sy dn, cI aC ew 8 wf] := jn_N (wr := [cI aC es 5 stf]) hFc hk1 hP1 hD1 hP hD [0, 1] [2] rfl rfl (by decide) (by decide)
        have hP := hpd9.1
        have hD := hpd9.2
        clear hpd9
        generalize H1 = H at hP hS ⊢
        clear hPc hDc hFc hz1 hk1 hP1 hD1 ht hvm
        have h9 : x_6 = nI (sumr W0 i (n - i)) := hw_6
        subst h9
        have hs9 := w_le (W := W0) (a := i) (k := n - i) (fun j q => (hw.2 j q).2) (by omega) hw.1
        have hy9 := yw_le (W := W0) (y := y) (a := i) (k := j - i) (fun j q => (hw.2 j q).2) (by omega) hw.1
        have hpd9 := pdf_N (cx := []) hP hD hS hA [] (by decide) rfl
        have hPc := hpd9.1
        have hDc := hpd9.2.1
        have hFc := hpd9.2.2
        clear hpd9
        refine va_calli (va_runSN (As := [Value.int (stf 1), Value.int (nI (yw W0 y i (j - i))), Value.int (nI (sumr W0 i (n - i)))]) (rest := []) ⟨hx, hb, hml, hown, hts⟩ (c_X11_isEnough l dC dI aC H.size (stf 1) (yw W0 y i (j - i)) (sumr W0 i (n - i)) (by omega) (by omega)) ⟨(va_cnB 3 hts (gG kw_469) rfl rfl rfl (hN.1 _ kw_483 rfl) (hts _ (gw kw_1 rfl)) hd_X11_isEnough ⟨Nat.le_of_ble_eq_true rfl, Nat.le_of_ble_eq_true rfl⟩), (hts _ (gw kw_468 rfl)), trivial⟩ ⟨fb_std, pre_std hPc hK hDc hN⟩ rfl rfl hl.1 rfl (lv_room (Nat.le_of_ble_eq_true rfl)) dX4_isCarried_56 ⟨Nat.le_of_ble_eq_true rfl, Nat.le_of_ble_eq_true rfl⟩) hS (fun q _ h => hFc q h) hFc (fun x_7 u9 t9 H1 locs ht hvm hw_7 hB hz1 hk1 hS => ?_)
        obtain ⟨hP1, hK1, hD1⟩ := hB
        rw [ht] at hP1
        clear hK1
        try dsimp only at hw_7
        have hpd9 : PDx (dC, dI) classes A H1 [cI aC es 5 stf, oX4 h1 ek ef ew ep es (nI n) sy dn, cI aC ew 8 wf] := jn_N (wr := [cI aC es 5 stf, oX4 h1 ek ef ew ep es (nI n) sy dn, cI aC ew 8 wf]) hFc hk1 hP1 hD1 hP hD [] [0, 1, 2] rfl rfl (by decide) (by decide)
        have hP := hpd9.1
        have hD := hpd9.2
        clear hpd9
        generalize H1 = H at hP hS ⊢
        clear hPc hDc hFc hz1 hk1 hP1 hD1 ht hvm
        have hz_56 := hw_7
        have hpd9 := pd_N (cx := [oX4 h1 ek ef ew ep es (nI n) sy dn, cI aC ew 8 wf, cI aC es 5 stf]) hP hD [1, 2, 0] (by decide) rfl
        have hP9 := hpd9.1
        have hD9 := hpd9.2
        refine W.widen (k := 0) (n := 0) (by omega) (by omega) ?_
        exact W.zret (v := x_7) hx hb hr (by rw [hz_56]; split <;> rfl) (fun t ht hW => ⟨⟨x_7, (), rfl, by rw [hz_56, hjn], by rw [ht]; exact hP9, va_K.moved hW.alike hK, hD9⟩, hS.F ht⟩) hS.2.2 dX4_isCarried_59
      · have hlt : j < n := by
          rcases Nat.lt_or_ge j n with q | q
          · exact q
          · exact absurd (nI_le q (by omega)) c_3
        refine lv_iload_n hx hb dX4_isCarried_18 rfl (lv_at hl 2 rfl) ?_
        refine lv_iload hx hb dX4_isCarried_19 (lv_at hl 4 rfl) ?_
        refine lv_ishr hx hb dX4_isCarried_21 ?_
        refine lv_topi (fun x_8 e_8 => ?_)
        refine lv_iconst (v := 1) hx hb dX4_isCarried_22 (by decide) ?_
        refine lv_iand hx hb dX4_isCarried_23 ?_
        refine lv_topi (fun x_9 e_9 => ?_)
        refine lv_iconst (v := 1) hx hb dX4_isCarried_24 (by decide) ?_
        refine lv_icmp_ne (tgt := 38) hx hb dX4_isCarried_25 (by decide) (fun c_10 => ?_) (fun c_10 => ?_)
        · have hbt : ¬ bt y j = true := fun q => c_10 (by rw [e_9, e_8]; exact (b_tst (by omega)).mpr q)
          have h9 : nI (yw W0 y i (j - i)) = nI (yw W0 y i (j + 1 - i)) := by rw [yw_suc hj.1, if_neg hbt]; rfl
          rw [h9] at hl
          obtain ⟨x_11, e_11⟩ : ∃ y : Int32, y = (nI j) + 1 := ⟨_, rfl⟩
          refine lv_iinc (v := x_11) (lv' := [(4, Value.int x_11), (0, Value.ref h1), (1, Value.int (nI i)), (2, Value.int y), (3, Value.int (nI (yw W0 y i (j + 1 - i))))]) hx hb dX4_isCarried_38 hl (k := 4) rfl (by rw [e_11]; rfl) (by decide) rfl (fun ls hl => ?_)
          have h9 : x_11 = nI (j + 1) := by rw [e_11, nI_1]
          subst h9
          refine lv_goto (tgt := 9) hx hb dX4_isCarried_41 (by decide) ?_
          exact ih_9 (j + 1) (ms_lt hlt hfu) (by omega) _ _ _ (hP.sub [0, 1, 2] rfl) (hD.sub [0, 1, 2] (by decide) rfl) hS (lv_sub hl [1, 2, 3, 4, 0] rfl)
        · refine lv_iload_n hx hb dX4_isCarried_28 rfl (lv_at hl 3 rfl) ?_
          refine lv_aload_n hx hb dX4_isCarried_29 rfl (lv_at hl 0 rfl) ?_
          refine va_get (D := (dC, dI)) (ci := 4) (v := Value.ref ew) (C := RX4) (T := TX4) (N := 8) hx hb hts inX4 hown hK hP 0 rfl rfl 2 (by decide) (hts _ (gw kw_38 rfl)) (fun _ h9 => h9) rfl dX4_isCarried_30 ?_
          refine lv_iload hx hb dX4_isCarried_33 (lv_at hl 4 rfl) ?_
          have h_12 : vp_in (nI j) 8 := by first | exact vp_in_nI (by omega) (by omega) | (unfold vp_in; decide) | (subst_vars; first | (unfold vp_in; decide) | exact vp_in_nI (by omega) (by omega))
          refine va_iald hx hb hK hP 1 0 rfl rfl h_12 dX4_isCarried_35 ?_
          refine lv_topi (fun x_13 e_13 => ?_)
          have h9 : x_13 = nI (W0 j) := by rw [e_13, nI_clamp (by omega)]; exact (hw.2 j hlt).1
          subst h9
          refine lv_iadd hx hb dX4_isCarried_36 ?_
          refine lv_topi (fun x_14 e_14 => ?_)
          refine lv_istore_n (lv' := [(3, Value.int x_14), (0, Value.ref h1), (1, Value.int (nI i)), (2, Value.int y), (4, Value.int (nI j))]) hx hb dX4_isCarried_37 rfl hl (by decide) rfl (fun ls hl => ?_)
          have hbt : bt y j = true := (b_tst (by omega)).mp (by rw [← e_8, ← e_9]; exact c_10)
          have h9 : x_14 = nI (yw W0 y i (j + 1 - i)) := by rw [e_14, nI_add, yw_suc hj.1, if_pos hbt]
          subst h9
          obtain ⟨x_15, e_15⟩ : ∃ y : Int32, y = (nI j) + 1 := ⟨_, rfl⟩
          refine lv_iinc (v := x_15) (lv' := [(4, Value.int x_15), (3, Value.int (nI (yw W0 y i (j + 1 - i)))), (0, Value.ref h1), (1, Value.int (nI i)), (2, Value.int y)]) hx hb dX4_isCarried_38 hl (k := 4) rfl (by rw [e_15]; rfl) (by decide) rfl (fun ls hl => ?_)
          have h9 : x_15 = nI (j + 1) := by rw [e_15, nI_1]
          subst h9
          refine lv_goto (tgt := 9) hx hb dX4_isCarried_41 (by decide) ?_
          exact ih_9 (j + 1) (ms_lt hlt hfu) (by omega) _ _ _ (hP.sub [0, 1, 2] rfl) (hD.sub [0, 1, 2] (by decide) rfl) hS (lv_sub hl [2, 3, 4, 1, 0] rfl)
  exact lp_9 ((n - i) + 1) i (Nat.lt_succ_self _) (by omega) _ _ _ (hP.sub [0, 1, 2] rfl) (hD.sub [0, 1, 2] (by decide) rfl) hS (lv_sub hl [2, 3, 4, 1, 0] rfl)

set_option maxHeartbeats 1000000 in
set_option maxRecDepth 100000 in
/-- X9_end -/
theorem c_X9_end (l : Launch) (dC : Nat → ClassId) (dI : Nat → Nat → Nat) (aC : Nat → ClassId) (sz : Nat) (h1 : Nat) (po : Nat) (pp : Nat) (ps : Nat) (pa : Nat) (pe : Nat) (pb : Nat) (pv : Nat) (pk : Nat) (pu : Nat) (pw : Nat) (pq : Nat) (pt : Nat) (un : Int32) (fw : Int32) (ek : Nat) (ef : Nat) (ew : Nat) (ep : Nat) (es : Nat) (n : Nat) (sy : Int32) (dn : Int32) (wf : Nat → Int32) (stf : Nat → Int32) (yf : Nat → Int32) (ef0 : Nat → Int32) (L : List Nat) (g : Nat → Nat → Int32) (fo : Nat → Option Nat) (fp : Nat → Option Nat) (fs : Nat → Option Nat) (ro : Nat → Nat) (rp : Nat → Nat) (rs : Nat → Nat) (W0 : Nat → Nat) (i : Nat) (hgr : GRD L fo fp fs ro rp rs) (hw : n ≤ 8 ∧ ∀ j, j < n → wf j = nI (W0 j) ∧ W0 j ≤ 9) (hi : i < n) : Met l yX9_end (wW yX9_end cX9_end 3 (none : Option FieldType)) ({ frames := 3, cells := 0, slots := 0, locals := 60 } : Room) (va_Pc [Value.ref h1, Value.int (nI i)] (fun U => U.heap.size = sz ∧ va_P (dC, dI) classes (wp [oX9 h1 po pp ps pa pe pb pv pk pu pw pq pt un fw, oX4 pv ek ef ew ep es (nI n) sy dn, cI aC ew 8 wf, cI aC es 5 stf, cI aC pa 8 yf, cI aC pe 8 ef0, cA aC po 8 fo, cA aC ps 8 fs] (va_pl L (plE aC g))) U.heap ∧ va_K (dC, dI) classes (TY aC) U ∧ va_D (fun _ => True) (wp [oX9 h1 po pp ps pa pe pb pv pk pu pw pq pt un fw, oX4 pv ek ef ew ep es (nI n) sy dn, cI aC ew 8 wf, cI aC es 5 stf, cI aC pa 8 yf, cI aC pe 8 ef0, cA aC po 8 fo, cA aC ps 8 fs] (va_pl L (plE aC g))) ∧ NX U)) (va_Qv (fun (u : (Nat → Int32) × (Nat → Nat → Int32)) => match u with | (eg, g2) => ((n ≤ i + 1 ∨ nd (stf 1) (sumr W0 i (n - i)) ≤ yw W0 (yf i) i (n - i)) → (eg i = nI i ∧ ∀ q, q < 8 → g2 (rs i) q = g (ro i) q)) ∧ (¬ (n ≤ i + 1 ∨ nd (stf 1) (sumr W0 i (n - i)) ≤ yw W0 (yf i) i (n - i)) → (eg i = ef0 (i + 1) ∧ ∀ q, q < 8 → g2 (rs i) q = if q = i then -1 else g (rs (i + 1)) q)) ∧ (∀ q, q ≠ i → eg q = ef0 q) ∧ ∀ a, a ≠ rs i → g2 a = g a) (fun (u : (Nat → Int32) × (Nat → Nat → Int32)) (t : State) => match u with | (eg, g2) => va_P (dC, dI) classes (wp [oX9 h1 po pp ps pa pe pb pv pk pu pw pq pt un fw, oX4 pv ek ef ew ep es (nI n) sy dn, cI aC ew 8 wf, cI aC es 5 stf, cI aC pa 8 yf, cI aC pe 8 eg, cA aC po 8 fo, cA aC ps 8 fs] (va_pl L (plE aC g2))) t.heap ∧ va_K (dC, dI) classes (TY aC) t ∧ va_D (va_A (wp [oX9 h1 po pp ps pa pe pb pv pk pu pw pq pt un fw, oX4 pv ek ef ew ep es (nI n) sy dn, cI aC ew 8 wf, cI aC es 5 stf, cI aC pa 8 yf, cI aC pe 8 ef0, cA aC po 8 fo, cA aC ps 8 fs] (va_pl L (plE aC g))) sz) (wp [oX9 h1 po pp ps pa pe pb pv pk pu pw pq pt un fw, oX4 pv ek ef ew ep es (nI n) sy dn, cI aC ew 8 wf, cI aC es 5 stf, cI aC pa 8 yf, cI aC pe 8 eg, cA aC po 8 fo, cA aC ps 8 fs] (va_pl L (plE aC g2)))) (va_A (wp [oX9 h1 po pp ps pa pe pb pv pk pu pw pq pt un fw, oX4 pv ek ef ew ep es (nI n) sy dn, cI aC ew 8 wf, cI aC es 5 stf, cI aC pa 8 yf, cI aC pe 8 ef0, cA aC po 8 fo, cA aC ps 8 fs] (va_pl L (plE aC g))) sz)) 0 0 (va_A (wp [oX9 h1 po pp ps pa pe pb pv pk pu pw pq pt un fw, oX4 pv ek ef ew ep es (nI n) sy dn, cI aC ew 8 wf, cI aC es 5 stf, cI aC pa 8 yf, cI aC pe 8 ef0, cA aC po 8 fo, cA aC ps 8 fs] (va_pl L (plE aC g))) sz) := by
  refine Met.ofW (cc := cX9_end) (maxL := 3) (ret := (none : Option FieldType)) (by decide) rfl ?_
  intro p e s m args below meth c s₁ B hml hv
  obtain ⟨rfl, hsz, hP, hK, hD0, hN⟩ := hv
  have hx := B.exec
  have hb := B.bytes
  have hr := B.returns
  have hts0 := atoms_spec (ws := (wW yX9_end cX9_end 3 (none : Option FieldType))) B.pre
  have hts : ∀ w9 ∈ lw_G, w9.before ([Value.ref h1, Value.int (nI i)] : List Value).toArray s = true := fun w9 h9 => hts0 w9 (List.mem_cons_of_mem _ h9)
  have hown : s.vm.findClass RX9 = some m.cls := findClass_of_methodNamed (x := yX9_end) B.named
  have hlocks := B.notSynchronized
  subst hsz
  have hD := hD0.self (sz := s.heap.size)
  generalize hAe : va_A (wp [oX9 h1 po pp ps pa pe pb pv pk pu pw pq pt un fw, oX4 pv ek ef ew ep es (nI n) sy dn, cI aC ew 8 wf, cI aC es 5 stf, cI aC pa 8 yf, cI aC pe 8 ef0, cA aC po 8 fo, cA aC ps 8 fs] (va_pl L (plE aC g))) s.heap.size = A at hD ⊢
  have hA : ∀ q : Nat, s.heap.size ≤ q → A q := fun q h => by rw [← hAe]; exact Or.inr h
  obtain ⟨H, hHe⟩ : ∃ H : Heap, H = s.heap := ⟨_, rfl⟩
  have hS : va_S A s.heap H [] := by rw [hHe]; exact va_S.rf
  have hP : va_P (dC, dI) classes (wp [oX9 h1 po pp ps pa pe pb pv pk pu pw pq pt un fw, oX4 pv ek ef ew ep es (nI n) sy dn, cI aC ew 8 wf, cI aC es 5 stf, cI aC pa 8 yf, cI aC pe 8 ef0, cA aC po 8 fo, cA aC ps 8 fs] (va_pl L (plE aC g))) H := by rw [hHe]; exact hP
  have hl := lv_entry ([Value.ref h1, Value.int (nI i)]) (n := 3) (Nat.le_of_ble_eq_true rfl)
  rw [lg_entry_eq]
  generalize (lg_sl ([Value.ref h1, Value.int (nI i)]) ++ List.replicate (3 - (lg_sl ([Value.ref h1, Value.int (nI i)])).length) Slot.unset).toArray = ls at hl ⊢
  have hl : lv_has ls 3 [(0, Value.ref h1), (1, Value.int (nI i))] := hl
  rw [← hHe]
  have hn8 := hw.1
  refine lv_iload_n hx hb dX9_end_0 rfl (lv_at hl 1 rfl) ?_
  refine lv_iconst (v := 1) hx hb dX9_end_1 (by decide) ?_
  refine lv_iadd hx hb dX9_end_2 ?_
  refine lv_topi (fun x_1 e_1 => ?_)
  have h9 : x_1 = nI (i + 1) := by rw [e_1, nI_1]
  subst h9
  refine lv_aload_n hx hb dX9_end_3 rfl (lv_at hl 0 rfl) ?_
  refine va_get (D := (dC, dI)) (ci := 9) (v := Value.ref pv) (C := RX9) (T := TX9) (N := 14) hx hb hts inX9 hown hK hP 0 rfl rfl 6 (by decide) (hts _ (gw kw_162 rfl)) (fun _ h9 => h9) rfl dX9_end_4 ?_
  refine va_get (D := (dC, dI)) (ci := 4) (v := Value.int (nI n)) (C := RX4) (T := TX4) (N := 8) hx hb hts inX4 hown hK hP 1 rfl rfl 5 (by decide) (hts _ (gw kw_47 rfl)) (fun _ h9 => h9) rfl dX9_end_7 ?_
  refine lv_icmp_lt (tgt := 17) hx hb dX9_end_10 (by decide) (fun c_2 => ?_) (fun c_2 => ?_)
  · refine lv_iconst (v := 0) hx hb dX9_end_17 (by decide) ?_
    refine lv_istore_n (lv' := [(2, Value.int 0), (0, Value.ref h1), (1, Value.int (nI i))]) hx hb dX9_end_18 rfl hl (by decide) rfl (fun ls hl => ?_)
    refine lv_iload_n hx hb dX9_end_19 rfl (lv_at hl 0 rfl) ?_
    refine lv_if_ne (tgt := 40) hx hb dX9_end_20 (by decide) (fun c_3 => ?_) (fun c_3 => ?_)
    · exact absurd rfl c_3
    · refine lv_aload_n hx hb dX9_end_23 rfl (lv_at hl 1 rfl) ?_
      refine va_get (D := (dC, dI)) (ci := 9) (v := Value.ref pv) (C := RX9) (T := TX9) (N := 14) hx hb hts inX9 hown hK hP 0 rfl rfl 6 (by decide) (hts _ (gw kw_162 rfl)) (fun _ h9 => h9) rfl dX9_end_24 ?_
      refine lv_iload_n hx hb dX9_end_27 rfl (lv_at hl 2 rfl) ?_
      refine lv_aload_n hx hb dX9_end_28 rfl (lv_at hl 1 rfl) ?_
      refine va_get (D := (dC, dI)) (ci := 9) (v := Value.ref pa) (C := RX9) (T := TX9) (N := 14) hx hb hts inX9 hown hK hP 0 rfl rfl 3 (by decide) (hts _ (gw kw_156 rfl)) (fun _ h9 => h9) rfl dX9_end_29 ?_
      refine lv_iload_n hx hb dX9_end_32 rfl (lv_at hl 2 rfl) ?_
      have h_4 : vp_in (nI i) 8 := by first | exact vp_in_nI (by omega) (by omega) | (unfold vp_in; decide) | (subst_vars; first | (unfold vp_in; decide) | exact vp_in_nI (by omega) (by omega))
      refine va_iald hx hb hK hP 4 0 rfl rfl h_4 dX9_end_33 ?_
      refine lv_topi (fun x_5 e_5 => ?_)
      have h9 : x_5 = (yf i) := by rw [e_5, nI_clamp (by omega)]
      subst h9
      have hpd9 := pdf_N (cx := [oX4 pv ek ef ew ep es (nI n) sy dn, cI aC ew 8 wf, cI aC es 5 stf]) hP hD hS hA [1, 2, 3] (by decide) rfl
      have hPc := hpd9.1
      have hDc := hpd9.2.1
      have hFc := hpd9.2.2
      clear hpd9
      refine va_calli (va_runV (As := [Value.int (nI i), Value.int (yf i)]) (rest := []) ⟨hx, hb, hml, hown, hts⟩ (c_X4_isCarried l dC dI aC H.size pv ek ef ew ep es n sy dn wf stf W0 i (yf i) (hw) (by omega)) ⟨(callB_of 2 hts (gG kw_481) rfl rfl rfl (hts _ (gw kw_2 rfl)) (hts _ (gw kw_478 rfl)) hd_X4_isCarried ⟨Nat.le_of_ble_eq_true rfl, Nat.le_of_ble_eq_true rfl⟩), (hts _ (gw kw_479 rfl)), (hts _ (gw kw_480 rfl))⟩ ⟨fb_std, va_recv (q := (RX4, TX4, 8)) hK hPc (ci := 4) (q0 := 0) rfl rfl, pre_std hPc hK hDc hN⟩ rfl rfl hl.1 rfl (lv_room (Nat.le_of_ble_eq_true rfl)) dX9_end_34 ⟨Nat.le_of_ble_eq_true rfl, Nat.le_of_ble_eq_true rfl⟩) hS (fun q _ h => hFc q h) hFc (fun x_6 u9 t9 H1 locs ht hvm hw_6 hB hz1 hk1 hS => ?_)
      obtain ⟨hP1, hK1, hD1⟩ := hB
      rw [ht] at hP1
      clear hK1
      try dsimp only at hw_6
      have hpd9 : PDx (dC, dI) classes A H1 (wp [oX9 h1 po pp ps pa pe pb pv pk pu pw pq pt un fw, cI aC pa 8 yf, cI aC pe 8 ef0, cA aC po 8 fo, cA aC ps 8 fs, oX4 pv ek ef ew ep es (nI n) sy dn, cI aC ew 8 wf, cI aC es 5 stf] (va_pl L (plE aC g))) := jn_Q (wr := [oX9 h1 po pp ps pa pe pb pv pk pu pw pq pt un fw, cI aC pa 8 yf, cI aC pe 8 ef0, cA aC po 8 fo, cA aC ps 8 fs]) hFc hk1 hP1 hD1 hP hD [1, 2, 3] [0, 4, 5, 6, 7] rfl rfl (by decide) (by decide)
      have hP := hpd9.1
      have hD := hpd9.2
      clear hpd9
      generalize H1 = H at hP hS ⊢
      clear hPc hDc hFc hz1 hk1 hP1 hD1 ht hvm
      have hz_34 := hw_6
      refine lv_if_eq (tgt := 69) hx hb dX9_end_37 (by decide) (fun c_7 => ?_) (fun c_7 => ?_)
      · have hlt : i + 1 < n := (nI_ltI (by omega) (by omega)).mp c_2
        have hncar : ¬ (n ≤ i + 1 ∨ nd (stf 1) (sumr W0 i (n - i)) ≤ yw W0 (yf i) i (n - i)) := fun h => by
          rcases h with h | h
          · omega
          · exact absurd (hz_34.symm.trans c_7) (by rw [if_pos h]; decide)
        refine lv_aload_n hx hb dX9_end_69 rfl (lv_at hl 1 rfl) ?_
        refine va_get (D := (dC, dI)) (ci := 9) (v := Value.ref pe) (C := RX9) (T := TX9) (N := 14) hx hb hts inX9 hown hK hP 0 rfl rfl 4 (by decide) (hts _ (gw kw_158 rfl)) (fun _ h9 => h9) rfl dX9_end_70 ?_
        refine lv_iload_n hx hb dX9_end_73 rfl (lv_at hl 2 rfl) ?_
        refine lv_aload_n hx hb dX9_end_74 rfl (lv_at hl 1 rfl) ?_
        refine va_get (D := (dC, dI)) (ci := 9) (v := Value.ref pe) (C := RX9) (T := TX9) (N := 14) hx hb hts inX9 hown hK hP 0 rfl rfl 4 (by decide) (hts _ (gw kw_158 rfl)) (fun _ h9 => h9) rfl dX9_end_75 ?_
        refine lv_iload_n hx hb dX9_end_78 rfl (lv_at hl 2 rfl) ?_
        refine lv_iconst (v := 1) hx hb dX9_end_79 (by decide) ?_
        refine lv_iadd hx hb dX9_end_80 ?_
        refine lv_topi (fun x_8 e_8 => ?_)
        have h9 : x_8 = nI (i + 1) := by rw [e_8, nI_1]
        subst h9
        have h_9 : vp_in (nI (i + 1)) 8 := by first | exact vp_in_nI (by omega) (by omega) | (unfold vp_in; decide) | (subst_vars; first | (unfold vp_in; decide) | exact vp_in_nI (by omega) (by omega))
        refine va_iald hx hb hK hP 2 0 rfl rfl h_9 dX9_end_81 ?_
        refine lv_topi (fun x_10 e_10 => ?_)
        have h_11 : vp_in (nI i) 8 := by first | exact vp_in_nI (by omega) (by omega) | (unfold vp_in; decide) | (subst_vars; first | (unfold vp_in; decide) | exact vp_in_nI (by omega) (by omega))
        refine va_iast hx hb hK hP hD hS 2 0 rfl rfl h_11 dX9_end_82 (fun H locs hP hD hS => ?_)
        obtain ⟨f_12, e_f_12⟩ : ∃ y : Nat → Int32, y = upd ef0 (nI i : Int32).toNatClampNeg x_10 := ⟨_, rfl⟩
        have hpd9 : PDx (dC, dI) classes A H (wp [oX9 h1 po pp ps pa pe pb pv pk pu pw pq pt un fw, cI aC pa 8 yf, cI aC pe 8 f_12, cA aC po 8 fo, cA aC ps 8 fs, oX4 pv ek ef ew ep es (nI n) sy dn, cI aC ew 8 wf, cI aC es 5 stf] (va_pl L (plE aC g))) := by rw [e_f_12]; exact ⟨hP, hD⟩
        have hP := hpd9.1
        have hD := hpd9.2
        clear hpd9
        refine lv_aload_n hx hb dX9_end_83 rfl (lv_at hl 1 rfl) ?_
        refine va_get (D := (dC, dI)) (ci := 9) (v := Value.ref ps) (C := RX9) (T := TX9) (N := 14) hx hb hts inX9 hown hK hP 0 rfl rfl 2 (by decide) (hts _ (gw kw_154 rfl)) (fun _ h9 => h9) rfl dX9_end_84 ?_
        refine lv_iload_n hx hb dX9_end_87 rfl (lv_at hl 2 rfl) ?_
        refine lv_iconst (v := 1) hx hb dX9_end_88 (by decide) ?_
        refine lv_iadd hx hb dX9_end_89 ?_
        refine lv_topi (fun x_13 e_13 => ?_)
        have h9 : x_13 = nI (i + 1) := by rw [e_13, nI_1]
        subst h9
        have h_14 : vp_in (nI (i + 1)) 8 := by first | exact vp_in_nI (by omega) (by omega) | (unfold vp_in; decide) | (subst_vars; first | (unfold vp_in; decide) | exact vp_in_nI (by omega) (by omega))
        refine va_alda (r := rs (i + 1)) hx hb hK hP 4 rfl h_14 (by rw [nI_clamp (by omega)]; exact (hgr.1 (i + 1) (by omega)).2.2.1) dX9_end_90 ?_
        refine lv_iconst (v := 0) hx hb dX9_end_91 (by decide) ?_
        refine lv_aload_n hx hb dX9_end_92 rfl (lv_at hl 1 rfl) ?_
        refine va_get (D := (dC, dI)) (ci := 9) (v := Value.ref ps) (C := RX9) (T := TX9) (N := 14) hx hb hts inX9 hown hK hP 0 rfl rfl 2 (by decide) (hts _ (gw kw_154 rfl)) (fun _ h9 => h9) rfl dX9_end_93 ?_
        refine lv_iload_n hx hb dX9_end_96 rfl (lv_at hl 2 rfl) ?_
        have h_15 : vp_in (nI i) 8 := by first | exact vp_in_nI (by omega) (by omega) | (unfold vp_in; decide) | (subst_vars; first | (unfold vp_in; decide) | exact vp_in_nI (by omega) (by omega))
        refine va_alda (r := rs i) hx hb hK hP 4 rfl h_15 (by rw [nI_clamp (by omega)]; exact (hgr.1 i (by omega)).2.2.1) dX9_end_97 ?_
        refine lv_iconst (v := 0) hx hb dX9_end_98 (by decide) ?_
        refine lv_bipush (v := 8) hx hb dX9_end_99 (by decide) ?_
        refine pl_copyi hx hb (by rw [hml]; exact hl.1.symm) hown (hts _ (gw kw_484 rfl)) (hts _ (gw kw_486 rfl)) (hts _ (gw kw_485 rfl)) (hts _ (gw kw_16 rfl)) hK hP hD hS ((hgr.1 (i + 1) (by omega)).2.2.2) ((hgr.1 i (by omega)).2.2.2) (Nat.le_of_ble_eq_true rfl) (Nat.le_of_ble_eq_true rfl) dX9_end_101 (fun H locs hP hD hS => ?_)
        obtain ⟨g_16, e_g_16⟩ : ∃ y : Nat → Nat → Int32, y = va_up g (rs i) (va_cpy (g (rs (i + 1))) (g (rs i)) 0 0 8) := ⟨_, rfl⟩
        have hpd9 : PDx (dC, dI) classes A H (wp [oX9 h1 po pp ps pa pe pb pv pk pu pw pq pt un fw, cI aC pa 8 yf, cI aC pe 8 f_12, cA aC po 8 fo, cA aC ps 8 fs, oX4 pv ek ef ew ep es (nI n) sy dn, cI aC ew 8 wf, cI aC es 5 stf] (va_pl L (plE aC g_16))) := by rw [e_g_16]; exact ⟨hP, hD⟩
        have hP := hpd9.1
        have hD := hpd9.2
        clear hpd9
        refine lv_aload_n hx hb dX9_end_104 rfl (lv_at hl 1 rfl) ?_
        refine va_get (D := (dC, dI)) (ci := 9) (v := Value.ref ps) (C := RX9) (T := TX9) (N := 14) hx hb hts inX9 hown hK hP 0 rfl rfl 2 (by decide) (hts _ (gw kw_154 rfl)) (fun _ h9 => h9) rfl dX9_end_105 ?_
        refine lv_iload_n hx hb dX9_end_108 rfl (lv_at hl 2 rfl) ?_
        have h_17 : vp_in (nI i) 8 := by first | exact vp_in_nI (by omega) (by omega) | (unfold vp_in; decide) | (subst_vars; first | (unfold vp_in; decide) | exact vp_in_nI (by omega) (by omega))
        refine va_alda (r := rs i) hx hb hK hP 4 rfl h_17 (by rw [nI_clamp (by omega)]; exact (hgr.1 i (by omega)).2.2.1) dX9_end_109 ?_
        refine lv_iload_n hx hb dX9_end_110 rfl (lv_at hl 2 rfl) ?_
        refine lv_iconst (v := -1) hx hb dX9_end_111 (by decide) ?_
        have h_18 : vp_in (nI i) 8 := by first | exact vp_in_nI (by omega) (by omega) | (unfold vp_in; decide) | (subst_vars; first | (unfold vp_in; decide) | exact vp_in_nI (by omega) (by omega))
        refine pl_iast hx hb hK hP hD hS ((hgr.1 i (by omega)).2.2.2) h_18 dX9_end_112 (fun H locs hP hD hS => ?_)
        obtain ⟨g_19, e_g_19⟩ : ∃ y : Nat → Nat → Int32, y = va_up g_16 (rs i) (upd (g_16 (rs i)) (nI i : Int32).toNatClampNeg (-1)) := ⟨_, rfl⟩
        have hpd9 : PDx (dC, dI) classes A H (wp [oX9 h1 po pp ps pa pe pb pv pk pu pw pq pt un fw, cI aC pa 8 yf, cI aC pe 8 f_12, cA aC po 8 fo, cA aC ps 8 fs, oX4 pv ek ef ew ep es (nI n) sy dn, cI aC ew 8 wf, cI aC es 5 stf] (va_pl L (plE aC g_19))) := by rw [e_g_19]; exact ⟨hP, hD⟩
        have hP := hpd9.1
        have hD := hpd9.2
        clear hpd9
        have hpd9 := pd_P (cx := [oX9 h1 po pp ps pa pe pb pv pk pu pw pq pt un fw, oX4 pv ek ef ew ep es (nI n) sy dn, cI aC ew 8 wf, cI aC es 5 stf, cI aC pa 8 yf, cI aC pe 8 f_12, cA aC po 8 fo, cA aC ps 8 fs]) hP hD [0, 5, 6, 7, 1, 2, 3, 4] (by decide) rfl
        have hP9 := hpd9.1
        have hD9 := hpd9.2
        refine W.widen (k := 0) (n := 0) (by omega) (by omega) ?_
        exact W.vret hx hb hr (fun t ht hW => ⟨⟨(f_12, g_19), rfl, ⟨fun h => absurd h hncar, fun _ => ⟨by rw [e_f_12, nI_clamp (by omega), pk_us, e_10, nI_clamp (by omega)], fun q hq => by rw [e_g_19, nI_clamp (by omega), up_s]; by_cases e : q = i <;> first | (rw [e, pk_us, if_pos rfl]; done) | (rw [pk_un e, if_neg e, e_g_16, up_s]; exact sb_cpy0 hq)⟩, fun q h => by rw [e_f_12, nI_clamp (by omega), pk_un h], fun a h => by rw [e_g_19, up_n h, e_g_16, up_n h]⟩, by rw [ht]; exact hP9, va_K.moved hW.alike hK, hD9⟩, hS.F ht⟩) hS.2.2 dX9_end_113
      · have hcar : nd (stf 1) (sumr W0 i (n - i)) ≤ yw W0 (yf i) i (n - i) := by
          by_cases q : nd (stf 1) (sumr W0 i (n - i)) ≤ yw W0 (yf i) i (n - i)
          · exact q
          · exact absurd (by rw [hz_34, if_neg q]) c_7
        refine lv_aload_n hx hb dX9_end_40 rfl (lv_at hl 1 rfl) ?_
        refine va_get (D := (dC, dI)) (ci := 9) (v := Value.ref pe) (C := RX9) (T := TX9) (N := 14) hx hb hts inX9 hown hK hP 0 rfl rfl 4 (by decide) (hts _ (gw kw_158 rfl)) (fun _ h9 => h9) rfl dX9_end_41 ?_
        refine lv_iload_n hx hb dX9_end_44 rfl (lv_at hl 2 rfl) ?_
        refine lv_iload_n hx hb dX9_end_45 rfl (lv_at hl 2 rfl) ?_
        have h_20 : vp_in (nI i) 8 := by first | exact vp_in_nI (by omega) (by omega) | (unfold vp_in; decide) | (subst_vars; first | (unfold vp_in; decide) | exact vp_in_nI (by omega) (by omega))
        refine va_iast hx hb hK hP hD hS 2 0 rfl rfl h_20 dX9_end_46 (fun H locs hP hD hS => ?_)
        obtain ⟨f_21, e_f_21⟩ : ∃ y : Nat → Int32, y = upd ef0 (nI i : Int32).toNatClampNeg (nI i) := ⟨_, rfl⟩
        have hpd9 : PDx (dC, dI) classes A H (wp [oX9 h1 po pp ps pa pe pb pv pk pu pw pq pt un fw, cI aC pa 8 yf, cI aC pe 8 f_21, cA aC po 8 fo, cA aC ps 8 fs, oX4 pv ek ef ew ep es (nI n) sy dn, cI aC ew 8 wf, cI aC es 5 stf] (va_pl L (plE aC g))) := by rw [e_f_21]; exact ⟨hP, hD⟩
        have hP := hpd9.1
        have hD := hpd9.2
        clear hpd9
        refine lv_aload_n hx hb dX9_end_47 rfl (lv_at hl 1 rfl) ?_
        refine va_get (D := (dC, dI)) (ci := 9) (v := Value.ref po) (C := RX9) (T := TX9) (N := 14) hx hb hts inX9 hown hK hP 0 rfl rfl 0 (by decide) (hts _ (gw kw_150 rfl)) (fun _ h9 => h9) rfl dX9_end_48 ?_
        refine lv_iload_n hx hb dX9_end_51 rfl (lv_at hl 2 rfl) ?_
        have h_22 : vp_in (nI i) 8 := by first | exact vp_in_nI (by omega) (by omega) | (unfold vp_in; decide) | (subst_vars; first | (unfold vp_in; decide) | exact vp_in_nI (by omega) (by omega))
        refine va_alda (r := ro i) hx hb hK hP 3 rfl h_22 (by rw [nI_clamp (by omega)]; exact (hgr.1 i (by omega)).1.1) dX9_end_52 ?_
        refine lv_iconst (v := 0) hx hb dX9_end_53 (by decide) ?_
        refine lv_aload_n hx hb dX9_end_54 rfl (lv_at hl 1 rfl) ?_
        refine va_get (D := (dC, dI)) (ci := 9) (v := Value.ref ps) (C := RX9) (T := TX9) (N := 14) hx hb hts inX9 hown hK hP 0 rfl rfl 2 (by decide) (hts _ (gw kw_154 rfl)) (fun _ h9 => h9) rfl dX9_end_55 ?_
        refine lv_iload_n hx hb dX9_end_58 rfl (lv_at hl 2 rfl) ?_
        have h_23 : vp_in (nI i) 8 := by first | exact vp_in_nI (by omega) (by omega) | (unfold vp_in; decide) | (subst_vars; first | (unfold vp_in; decide) | exact vp_in_nI (by omega) (by omega))
        refine va_alda (r := rs i) hx hb hK hP 4 rfl h_23 (by rw [nI_clamp (by omega)]; exact (hgr.1 i (by omega)).2.2.1) dX9_end_59 ?_
        refine lv_iconst (v := 0) hx hb dX9_end_60 (by decide) ?_
        refine lv_bipush (v := 8) hx hb dX9_end_61 (by decide) ?_
        refine pl_copyi hx hb (by rw [hml]; exact hl.1.symm) hown (hts _ (gw kw_484 rfl)) (hts _ (gw kw_486 rfl)) (hts _ (gw kw_485 rfl)) (hts _ (gw kw_16 rfl)) hK hP hD hS ((hgr.1 i (by omega)).1.2) ((hgr.1 i (by omega)).2.2.2) (Nat.le_of_ble_eq_true rfl) (Nat.le_of_ble_eq_true rfl) dX9_end_63 (fun H locs hP hD hS => ?_)
        obtain ⟨g_24, e_g_24⟩ : ∃ y : Nat → Nat → Int32, y = va_up g (rs i) (va_cpy (g (ro i)) (g (rs i)) 0 0 8) := ⟨_, rfl⟩
        have hpd9 : PDx (dC, dI) classes A H (wp [oX9 h1 po pp ps pa pe pb pv pk pu pw pq pt un fw, cI aC pa 8 yf, cI aC pe 8 f_21, cA aC po 8 fo, cA aC ps 8 fs, oX4 pv ek ef ew ep es (nI n) sy dn, cI aC ew 8 wf, cI aC es 5 stf] (va_pl L (plE aC g_24))) := by rw [e_g_24]; exact ⟨hP, hD⟩
        have hP := hpd9.1
        have hD := hpd9.2
        clear hpd9
        refine lv_goto (tgt := 113) hx hb dX9_end_66 (by decide) ?_
        have hpd9 := pd_P (cx := [oX9 h1 po pp ps pa pe pb pv pk pu pw pq pt un fw, oX4 pv ek ef ew ep es (nI n) sy dn, cI aC ew 8 wf, cI aC es 5 stf, cI aC pa 8 yf, cI aC pe 8 f_21, cA aC po 8 fo, cA aC ps 8 fs]) hP hD [0, 5, 6, 7, 1, 2, 3, 4] (by decide) rfl
        have hP9 := hpd9.1
        have hD9 := hpd9.2
        refine W.widen (k := 0) (n := 0) (by omega) (by omega) ?_
        exact W.vret hx hb hr (fun t ht hW => ⟨⟨(f_21, g_24), rfl, ⟨fun _ => ⟨by rw [e_f_21, nI_clamp (by omega), pk_us], fun q hq => by rw [e_g_24, up_s]; exact sb_cpy0 hq⟩, fun h => absurd (Or.inr hcar) h, fun q h => by rw [e_f_21, nI_clamp (by omega), pk_un h], fun a h => by rw [e_g_24, up_n h]⟩, by rw [ht]; exact hP9, va_K.moved hW.alike hK, hD9⟩, hS.F ht⟩) hS.2.2 dX9_end_113
  · refine lv_iconst (v := 1) hx hb dX9_end_13 (by decide) ?_
    refine lv_goto (tgt := 18) hx hb dX9_end_14 (by decide) ?_
    refine lv_istore_n (lv' := [(2, Value.int 1), (0, Value.ref h1), (1, Value.int (nI i))]) hx hb dX9_end_18 rfl hl (by decide) rfl (fun ls hl => ?_)
    refine lv_iload_n hx hb dX9_end_19 rfl (lv_at hl 0 rfl) ?_
    refine lv_if_ne (tgt := 40) hx hb dX9_end_20 (by decide) (fun c_25 => ?_) (fun c_25 => ?_)
    · have hlast : n ≤ i + 1 := by
        rcases Nat.lt_or_ge (i + 1) n with q | q
        · exact absurd (nI_lt q (by omega)) c_2
        · exact q
      refine lv_aload_n hx hb dX9_end_40 rfl (lv_at hl 1 rfl) ?_
      refine va_get (D := (dC, dI)) (ci := 9) (v := Value.ref pe) (C := RX9) (T := TX9) (N := 14) hx hb hts inX9 hown hK hP 0 rfl rfl 4 (by decide) (hts _ (gw kw_158 rfl)) (fun _ h9 => h9) rfl dX9_end_41 ?_
      refine lv_iload_n hx hb dX9_end_44 rfl (lv_at hl 2 rfl) ?_
      refine lv_iload_n hx hb dX9_end_45 rfl (lv_at hl 2 rfl) ?_
      have h_26 : vp_in (nI i) 8 := by first | exact vp_in_nI (by omega) (by omega) | (unfold vp_in; decide) | (subst_vars; first | (unfold vp_in; decide) | exact vp_in_nI (by omega) (by omega))
      refine va_iast hx hb hK hP hD hS 5 0 rfl rfl h_26 dX9_end_46 (fun H locs hP hD hS => ?_)
      obtain ⟨f_27, e_f_27⟩ : ∃ y : Nat → Int32, y = upd ef0 (nI i : Int32).toNatClampNeg (nI i) := ⟨_, rfl⟩
      have hpd9 : PDx (dC, dI) classes A H (wp [oX9 h1 po pp ps pa pe pb pv pk pu pw pq pt un fw, oX4 pv ek ef ew ep es (nI n) sy dn, cI aC ew 8 wf, cI aC es 5 stf, cI aC pa 8 yf, cI aC pe 8 f_27, cA aC po 8 fo, cA aC ps 8 fs] (va_pl L (plE aC g))) := by rw [e_f_27]; exact ⟨hP, hD⟩
      have hP := hpd9.1
      have hD := hpd9.2
      clear hpd9
      refine lv_aload_n hx hb dX9_end_47 rfl (lv_at hl 1 rfl) ?_
      refine va_get (D := (dC, dI)) (ci := 9) (v := Value.ref po) (C := RX9) (T := TX9) (N := 14) hx hb hts inX9 hown hK hP 0 rfl rfl 0 (by decide) (hts _ (gw kw_150 rfl)) (fun _ h9 => h9) rfl dX9_end_48 ?_
      refine lv_iload_n hx hb dX9_end_51 rfl (lv_at hl 2 rfl) ?_
      have h_28 : vp_in (nI i) 8 := by first | exact vp_in_nI (by omega) (by omega) | (unfold vp_in; decide) | (subst_vars; first | (unfold vp_in; decide) | exact vp_in_nI (by omega) (by omega))
      refine va_alda (r := ro i) hx hb hK hP 6 rfl h_28 (by rw [nI_clamp (by omega)]; exact (hgr.1 i (by omega)).1.1) dX9_end_52 ?_
      refine lv_iconst (v := 0) hx hb dX9_end_53 (by decide) ?_
      refine lv_aload_n hx hb dX9_end_54 rfl (lv_at hl 1 rfl) ?_
      refine va_get (D := (dC, dI)) (ci := 9) (v := Value.ref ps) (C := RX9) (T := TX9) (N := 14) hx hb hts inX9 hown hK hP 0 rfl rfl 2 (by decide) (hts _ (gw kw_154 rfl)) (fun _ h9 => h9) rfl dX9_end_55 ?_
      refine lv_iload_n hx hb dX9_end_58 rfl (lv_at hl 2 rfl) ?_
      have h_29 : vp_in (nI i) 8 := by first | exact vp_in_nI (by omega) (by omega) | (unfold vp_in; decide) | (subst_vars; first | (unfold vp_in; decide) | exact vp_in_nI (by omega) (by omega))
      refine va_alda (r := rs i) hx hb hK hP 7 rfl h_29 (by rw [nI_clamp (by omega)]; exact (hgr.1 i (by omega)).2.2.1) dX9_end_59 ?_
      refine lv_iconst (v := 0) hx hb dX9_end_60 (by decide) ?_
      refine lv_bipush (v := 8) hx hb dX9_end_61 (by decide) ?_
      refine pl_copyi hx hb (by rw [hml]; exact hl.1.symm) hown (hts _ (gw kw_484 rfl)) (hts _ (gw kw_486 rfl)) (hts _ (gw kw_485 rfl)) (hts _ (gw kw_16 rfl)) hK hP hD hS ((hgr.1 i (by omega)).1.2) ((hgr.1 i (by omega)).2.2.2) (Nat.le_of_ble_eq_true rfl) (Nat.le_of_ble_eq_true rfl) dX9_end_63 (fun H locs hP hD hS => ?_)
      obtain ⟨g_30, e_g_30⟩ : ∃ y : Nat → Nat → Int32, y = va_up g (rs i) (va_cpy (g (ro i)) (g (rs i)) 0 0 8) := ⟨_, rfl⟩
      have hpd9 : PDx (dC, dI) classes A H (wp [oX9 h1 po pp ps pa pe pb pv pk pu pw pq pt un fw, oX4 pv ek ef ew ep es (nI n) sy dn, cI aC ew 8 wf, cI aC es 5 stf, cI aC pa 8 yf, cI aC pe 8 f_27, cA aC po 8 fo, cA aC ps 8 fs] (va_pl L (plE aC g_30))) := by rw [e_g_30]; exact ⟨hP, hD⟩
      have hP := hpd9.1
      have hD := hpd9.2
      clear hpd9
      refine lv_goto (tgt := 113) hx hb dX9_end_66 (by decide) ?_
      have hpd9 := pd_P (cx := [oX9 h1 po pp ps pa pe pb pv pk pu pw pq pt un fw, oX4 pv ek ef ew ep es (nI n) sy dn, cI aC ew 8 wf, cI aC es 5 stf, cI aC pa 8 yf, cI aC pe 8 f_27, cA aC po 8 fo, cA aC ps 8 fs]) hP hD [0, 1, 2, 3, 4, 5, 6, 7] (by decide) rfl
      have hP9 := hpd9.1
      have hD9 := hpd9.2
      refine W.widen (k := 0) (n := 0) (by omega) (by omega) ?_
      exact W.vret hx hb hr (fun t ht hW => ⟨⟨(f_27, g_30), rfl, ⟨fun _ => ⟨by rw [e_f_27, nI_clamp (by omega), pk_us], fun q hq => by rw [e_g_30, up_s]; exact sb_cpy0 hq⟩, fun h => absurd (Or.inl hlast) h, fun q h => by rw [e_f_27, nI_clamp (by omega), pk_un h], fun a h => by rw [e_g_30, up_n h]⟩, by rw [ht]; exact hP9, va_K.moved hW.alike hK, hD9⟩, hS.F ht⟩) hS.2.2 dX9_end_113
    · exact absurd c_25 (by decide)

end

section
/-! 37.plans5 -/
/-! sets of units -/
def cst (f : Nat → Nat) (s : Nat) : Nat := sumr (fun u => if s.testBit u = true then f u else 0) 0 7
theorem sumr_zero {f : Nat → Nat} {a : Nat} : ∀ {k : Nat}, (∀ j, a ≤ j → j < a + k → f j = 0) → sumr f a k = 0
  | 0, _ => rfl
  | k + 1, h => by
    show sumr f a k + f (a + k) = 0
    rw [sumr_zero (fun j h1 h2 => h j h1 (by omega)), h (a + k) (by omega) (by omega)]
theorem cst_0 {f : Nat → Nat} : cst f 0 = 0 := sumr_zero fun j _ _ => by simp
theorem sumr_one {f g : Nat → Nat} {a t : Nat} : ∀ {k : Nat}, a ≤ t → t < a + k → (∀ j, a ≤ j → j < a + k → j ≠ t → f j = g j) → sumr f a k + g t = sumr g a k + f t
  | 0, h1, h2, _ => by omega
  | k + 1, h1, h2, h => by
    show sumr f a k + f (a + k) + g t = sumr g a k + g (a + k) + f t
    by_cases e : t = a + k
    · subst e
      rw [sumr_congr (fun j q1 q2 => h j q1 (by omega) (by omega))]
      omega
    · have := sumr_one (f := f) (g := g) (a := a) (t := t) (k := k) h1 (by omega) (fun j q1 q2 q3 => h j q1 (by omega) q3)
      rw [h (a + k) (by omega) (by omega) (fun q => e q.symm)]
      omega
theorem cst_add {f : Nat → Nat} {t s : Nat} (ht : t < 7) (hs : s < 2 ^ t) : cst f (2 ^ t + s) = cst f s + f t := by
  unfold cst
  have h1 : (2 ^ t + s).testBit t = true := by
    rw [Nat.testBit_two_pow_add_eq, Nat.testBit_lt_two_pow hs]
    rfl
  have h2 : s.testBit t = false := Nat.testBit_lt_two_pow hs
  have h := sumr_one (f := fun u => if (2 ^ t + s).testBit u = true then f u else 0) (g := fun u => if s.testBit u = true then f u else 0) (a := 0) (t := t) (k := 7) (by omega) (by omega) (fun j _ _ hj => by
    have : (2 ^ t + s).testBit j = s.testBit j := by
      rcases Nat.lt_or_ge j t with q | q
      · exact Nat.testBit_two_pow_add_gt q s
      · have hlt : t < j := by omega
        have e1 : s < 2 ^ j := Nat.lt_of_lt_of_le hs (Nat.pow_le_pow_right (by omega) q)
        have e2 : 2 ^ t + s < 2 ^ j := by
          have : 2 ^ (t + 1) ≤ 2 ^ j := Nat.pow_le_pow_right (by omega) hlt
          rw [Nat.pow_succ] at this
          omega
        rw [Nat.testBit_lt_two_pow e1, Nat.testBit_lt_two_pow e2]
    rw [this])
  simp only [h1, h2, if_true, Bool.false_eq_true, if_false] at h
  omega
theorem p2_le {t : Nat} (h : t ≤ 7) : 2 ^ t ≤ 128 := (Nat.pow_le_pow_right (by omega) h : 2 ^ t ≤ 2 ^ 7)
theorem p2_le6 {t : Nat} (h : t < 7) : 2 ^ t ≤ 64 := (Nat.pow_le_pow_right (by omega) (by omega) : 2 ^ t ≤ 2 ^ 6)
theorem p2_pos {t : Nat} : 1 ≤ 2 ^ t := Nat.one_le_two_pow
theorem sh1 : ∀ t, t < 31 → (1 : Int32) <<< (nI t &&& 31) = nI (2 ^ t) := by decide +kernel
def mu (fst : Int32) (n i u : Nat) : Nat := if fst = 0 then n - 1 - u else i + 1 + u

set_option maxHeartbeats 1000000 in
set_option maxRecDepth 100000 in
/-- X9_forgetUnits -/
theorem c_X9_forgetUnits (l : Launch) (dC : Nat → ClassId) (dI : Nat → Nat → Nat) (aC : Nat → ClassId) (sz : Nat) (h1 : Nat) (po : Nat) (pp : Nat) (ps : Nat) (pa : Nat) (pe : Nat) (pb : Nat) (pv : Nat) (pk : Nat) (pu : Nat) (pw : Nat) (pq : Nat) (pt : Nat) (un : Int32) (fw : Int32)  : Met l yX9_forgetUnits (wW yX9_forgetUnits cX9_forgetUnits 1 (none : Option FieldType)) ({ frames := 0, cells := 0, slots := 0, locals := 0 } : Room) (va_Pc [Value.ref h1] (fun U => U.heap.size = sz ∧ va_P (dC, dI) classes [oX9 h1 po pp ps pa pe pb pv pk pu pw pq pt un fw] U.heap ∧ va_K (dC, dI) classes (TY aC) U ∧ va_D (fun _ => True) [oX9 h1 po pp ps pa pe pb pv pk pu pw pq pt un fw] ∧ NX U)) (va_Qv (fun (_ : Unit) => True) (fun (_ : Unit) (t : State) => va_P (dC, dI) classes [oX9 h1 po pp ps pa pe pb pv pk pu pw pq pt 0 0] t.heap ∧ va_K (dC, dI) classes (TY aC) t ∧ va_D (va_A [oX9 h1 po pp ps pa pe pb pv pk pu pw pq pt un fw] sz) [oX9 h1 po pp ps pa pe pb pv pk pu pw pq pt 0 0]) (va_A [oX9 h1 po pp ps pa pe pb pv pk pu pw pq pt un fw] sz)) 0 0 (va_A [oX9 h1 po pp ps pa pe pb pv pk pu pw pq pt un fw] sz) := by
  refine Met.ofW (cc := cX9_forgetUnits) (maxL := 1) (ret := (none : Option FieldType)) (by decide) rfl ?_
  intro p e s m args below meth c s₁ B hml hv
  obtain ⟨rfl, hsz, hP, hK, hD0, hN⟩ := hv
  have hx := B.exec
  have hb := B.bytes
  have hr := B.returns
  have hts0 := atoms_spec (ws := (wW yX9_forgetUnits cX9_forgetUnits 1 (none : Option FieldType))) B.pre
  have hts : ∀ w9 ∈ lw_G, w9.before ([Value.ref h1] : List Value).toArray s = true := fun w9 h9 => hts0 w9 (List.mem_cons_of_mem _ h9)
  have hown : s.vm.findClass RX9 = some m.cls := findClass_of_methodNamed (x := yX9_forgetUnits) B.named
  have hlocks := B.notSynchronized
  subst hsz
  have hD := hD0.self (sz := s.heap.size)
  generalize hAe : va_A [oX9 h1 po pp ps pa pe pb pv pk pu pw pq pt un fw] s.heap.size = A at hD ⊢
  have hA : ∀ q : Nat, s.heap.size ≤ q → A q := fun q h => by rw [← hAe]; exact Or.inr h
  obtain ⟨H, hHe⟩ : ∃ H : Heap, H = s.heap := ⟨_, rfl⟩
  have hS : va_S A s.heap H [] := by rw [hHe]; exact va_S.rf
  have hP : va_P (dC, dI) classes [oX9 h1 po pp ps pa pe pb pv pk pu pw pq pt un fw] H := by rw [hHe]; exact hP
  have hl := lv_entry ([Value.ref h1]) (n := 1) (Nat.le_of_ble_eq_true rfl)
  rw [lg_entry_eq]
  generalize (lg_sl ([Value.ref h1]) ++ List.replicate (1 - (lg_sl ([Value.ref h1])).length) Slot.unset).toArray = ls at hl ⊢
  have hl : lv_has ls 1 [(0, Value.ref h1)] := hl
  rw [← hHe]
  refine lv_aload_n hx hb dX9_forgetUnits_0 rfl (lv_at hl 0 rfl) ?_
  refine lv_iconst (v := 0) hx hb dX9_forgetUnits_1 (by decide) ?_
  refine va_put (D := (dC, dI)) (ci := 9) (v := Value.int 0) (ty := .int) (C := RX9) (T := TX9) (N := 14) hx hb hts inX9 tyX9 tyX9_ok nmX9 hown hK hP hD hS 0 rfl rfl 12 (by decide) (hts _ (gw kw_169 rfl)) (fun _ h9 => h9) rfl (by decide +kernel) rfl rfl (Nat.le_of_ble_eq_true rfl) dX9_forgetUnits_2 (fun H locs hP hD hS => ?_)
  have hpd9 : PDx (dC, dI) classes A H [oX9 h1 po pp ps pa pe pb pv pk pu pw pq pt 0 fw] := ⟨hP, hD⟩
  have hP := hpd9.1
  have hD := hpd9.2
  clear hpd9
  refine lv_aload_n hx hb dX9_forgetUnits_5 rfl (lv_at hl 0 rfl) ?_
  refine lv_iconst (v := 0) hx hb dX9_forgetUnits_6 (by decide) ?_
  refine va_put (D := (dC, dI)) (ci := 9) (v := Value.int 0) (ty := .int) (C := RX9) (T := TX9) (N := 14) hx hb hts inX9 tyX9 tyX9_ok nmX9 hown hK hP hD hS 0 rfl rfl 13 (by decide) (hts _ (gw kw_170 rfl)) (fun _ h9 => h9) rfl (by decide +kernel) rfl rfl (Nat.le_of_ble_eq_true rfl) dX9_forgetUnits_7 (fun H locs hP hD hS => ?_)
  have hpd9 : PDx (dC, dI) classes A H [oX9 h1 po pp ps pa pe pb pv pk pu pw pq pt 0 0] := ⟨hP, hD⟩
  have hP := hpd9.1
  have hD := hpd9.2
  clear hpd9
  have hpd9 := pd_N (cx := [oX9 h1 po pp ps pa pe pb pv pk pu pw pq pt 0 0]) hP hD [0] (by decide) rfl
  have hP9 := hpd9.1
  have hD9 := hpd9.2
  refine W.widen (k := 0) (n := 0) (by omega) (by omega) ?_
  exact W.vret hx hb hr (fun t ht hW => ⟨⟨(), rfl, trivial, by rw [ht]; exact hP9, va_K.moved hW.alike hK, hD9⟩, hS.F ht⟩) hS.2.2 dX9_forgetUnits_10

set_option maxHeartbeats 1000000 in
set_option maxRecDepth 100000 in
/-- X9_manOfUnit -/
theorem c_X9_manOfUnit (l : Launch) (dC : Nat → ClassId) (dI : Nat → Nat → Nat) (aC : Nat → ClassId) (sz : Nat) (h1 : Nat) (po : Nat) (pp : Nat) (ps : Nat) (pa : Nat) (pe : Nat) (pb : Nat) (pv : Nat) (pk : Nat) (pu : Nat) (pw : Nat) (pq : Nat) (pt : Nat) (un : Int32) (fw : Int32) (ek : Nat) (ef : Nat) (ew : Nat) (ep : Nat) (es : Nat) (n : Nat) (sy : Int32) (dn : Int32) (stf : Nat → Int32) (i : Nat) (u : Nat) (hu : i + 1 + u < n ∧ n ≤ 8) : Met l yX9_manOfUnit (wW yX9_manOfUnit cX9_manOfUnit 3 (some .int)) ({ frames := 0, cells := 0, slots := 0, locals := 0 } : Room) (va_Pc [Value.ref h1, Value.int (nI i), Value.int (nI u)] (fun U => U.heap.size = sz ∧ va_P (dC, dI) classes [oX9 h1 po pp ps pa pe pb pv pk pu pw pq pt un fw, oX4 pv ek ef ew ep es (nI n) sy dn, cI aC es 5 stf] U.heap ∧ va_K (dC, dI) classes (TY aC) U ∧ va_D (fun _ => True) [oX9 h1 po pp ps pa pe pb pv pk pu pw pq pt un fw, oX4 pv ek ef ew ep es (nI n) sy dn, cI aC es 5 stf] ∧ NX U)) (va_Qi (fun (r : Int32) (_ : Unit) => r = nI (mu (stf 3) n i u)) (fun (_ : Unit) (t : State) => va_P (dC, dI) classes [oX9 h1 po pp ps pa pe pb pv pk pu pw pq pt un fw, oX4 pv ek ef ew ep es (nI n) sy dn, cI aC es 5 stf] t.heap ∧ va_K (dC, dI) classes (TY aC) t ∧ va_D (va_A [oX9 h1 po pp ps pa pe pb pv pk pu pw pq pt un fw, oX4 pv ek ef ew ep es (nI n) sy dn, cI aC es 5 stf] sz) [oX9 h1 po pp ps pa pe pb pv pk pu pw pq pt un fw, oX4 pv ek ef ew ep es (nI n) sy dn, cI aC es 5 stf]) (va_A [oX9 h1 po pp ps pa pe pb pv pk pu pw pq pt un fw, oX4 pv ek ef ew ep es (nI n) sy dn, cI aC es 5 stf] sz)) 0 0 (va_A [oX9 h1 po pp ps pa pe pb pv pk pu pw pq pt un fw, oX4 pv ek ef ew ep es (nI n) sy dn, cI aC es 5 stf] sz) := by
  refine Met.ofW (cc := cX9_manOfUnit) (maxL := 3) (ret := (some .int)) (by decide) rfl ?_
  intro p e s m args below meth c s₁ B hml hv
  obtain ⟨rfl, hsz, hP, hK, hD0, hN⟩ := hv
  have hx := B.exec
  have hb := B.bytes
  have hr := B.returns
  have hts0 := atoms_spec (ws := (wW yX9_manOfUnit cX9_manOfUnit 3 (some .int))) B.pre
  have hts : ∀ w9 ∈ lw_G, w9.before ([Value.ref h1, Value.int (nI i), Value.int (nI u)] : List Value).toArray s = true := fun w9 h9 => hts0 w9 (List.mem_cons_of_mem _ h9)
  have hown : s.vm.findClass RX9 = some m.cls := findClass_of_methodNamed (x := yX9_manOfUnit) B.named
  have hlocks := B.notSynchronized
  subst hsz
  have hD := hD0.self (sz := s.heap.size)
  generalize hAe : va_A [oX9 h1 po pp ps pa pe pb pv pk pu pw pq pt un fw, oX4 pv ek ef ew ep es (nI n) sy dn, cI aC es 5 stf] s.heap.size = A at hD ⊢
  have hA : ∀ q : Nat, s.heap.size ≤ q → A q := fun q h => by rw [← hAe]; exact Or.inr h
  obtain ⟨H, hHe⟩ : ∃ H : Heap, H = s.heap := ⟨_, rfl⟩
  have hS : va_S A s.heap H [] := by rw [hHe]; exact va_S.rf
  have hP : va_P (dC, dI) classes [oX9 h1 po pp ps pa pe pb pv pk pu pw pq pt un fw, oX4 pv ek ef ew ep es (nI n) sy dn, cI aC es 5 stf] H := by rw [hHe]; exact hP
  have hl := lv_entry ([Value.ref h1, Value.int (nI i), Value.int (nI u)]) (n := 3) (Nat.le_of_ble_eq_true rfl)
  rw [lg_entry_eq]
  generalize (lg_sl ([Value.ref h1, Value.int (nI i), Value.int (nI u)]) ++ List.replicate (3 - (lg_sl ([Value.ref h1, Value.int (nI i), Value.int (nI u)])).length) Slot.unset).toArray = ls at hl ⊢
  have hl : lv_has ls 3 [(0, Value.ref h1), (1, Value.int (nI i)), (2, Value.int (nI u))] := hl
  rw [← hHe]
  refine lv_aload_n hx hb dX9_manOfUnit_0 rfl (lv_at hl 0 rfl) ?_
  refine va_get (D := (dC, dI)) (ci := 9) (v := Value.ref pv) (C := RX9) (T := TX9) (N := 14) hx hb hts inX9 hown hK hP 0 rfl rfl 6 (by decide) (hts _ (gw kw_162 rfl)) (fun _ h9 => h9) rfl dX9_manOfUnit_1 ?_
  refine va_get (D := (dC, dI)) (ci := 4) (v := Value.ref es) (C := RX4) (T := TX4) (N := 8) hx hb hts inX4 hown hK hP 1 rfl rfl 4 (by decide) (hts _ (gw kw_44 rfl)) (fun _ h9 => h9) rfl dX9_manOfUnit_4 ?_
  refine lv_iconst (v := 3) hx hb dX9_manOfUnit_7 (by decide) ?_
  have h_1 : vp_in 3 5 := by first | exact vp_in_nI (by omega) (by omega) | (unfold vp_in; decide) | (subst_vars; first | (unfold vp_in; decide) | exact vp_in_nI (by omega) (by omega))
  refine va_iald hx hb hK hP 2 0 rfl rfl h_1 dX9_manOfUnit_8 ?_
  refine lv_topi (fun x_2 e_2 => ?_)
  have h9 : x_2 = (stf 3) := by rw [e_2]; rfl
  subst h9
  refine lv_if_ne (tgt := 26) hx hb dX9_manOfUnit_9 (by decide) (fun c_3 => ?_) (fun c_3 => ?_)
  · refine lv_iload_n hx hb dX9_manOfUnit_26 rfl (lv_at hl 1 rfl) ?_
    refine lv_iconst (v := 1) hx hb dX9_manOfUnit_27 (by decide) ?_
    refine lv_iadd hx hb dX9_manOfUnit_28 ?_
    refine lv_topi (fun x_4 e_4 => ?_)
    have h9 : x_4 = nI (i + 1) := by rw [e_4, nI_1]
    subst h9
    refine lv_iload_n hx hb dX9_manOfUnit_29 rfl (lv_at hl 2 rfl) ?_
    refine lv_iadd hx hb dX9_manOfUnit_30 ?_
    refine lv_topi (fun x_5 e_5 => ?_)
    have h9 : x_5 = nI (i + 1 + u) := by rw [e_5, nI_add]
    subst h9
    have hpd9 := pd_N (cx := [oX9 h1 po pp ps pa pe pb pv pk pu pw pq pt un fw, oX4 pv ek ef ew ep es (nI n) sy dn, cI aC es 5 stf]) hP hD [0, 1, 2] (by decide) rfl
    have hP9 := hpd9.1
    have hD9 := hpd9.2
    refine W.widen (k := 0) (n := 0) (by omega) (by omega) ?_
    exact W.iret (v := nI (i + 1 + u)) hx hb hr (fun t ht hW => ⟨⟨(nI (i + 1 + u)), (), rfl, by unfold mu; rw [if_neg c_3], by rw [ht]; exact hP9, va_K.moved hW.alike hK, hD9⟩, hS.F ht⟩) hS.2.2 dX9_manOfUnit_31
  · refine lv_aload_n hx hb dX9_manOfUnit_12 rfl (lv_at hl 0 rfl) ?_
    refine va_get (D := (dC, dI)) (ci := 9) (v := Value.ref pv) (C := RX9) (T := TX9) (N := 14) hx hb hts inX9 hown hK hP 0 rfl rfl 6 (by decide) (hts _ (gw kw_162 rfl)) (fun _ h9 => h9) rfl dX9_manOfUnit_13 ?_
    refine va_get (D := (dC, dI)) (ci := 4) (v := Value.int (nI n)) (C := RX4) (T := TX4) (N := 8) hx hb hts inX4 hown hK hP 1 rfl rfl 5 (by decide) (hts _ (gw kw_47 rfl)) (fun _ h9 => h9) rfl dX9_manOfUnit_16 ?_
    refine lv_iconst (v := 1) hx hb dX9_manOfUnit_19 (by decide) ?_
    refine lv_isub hx hb dX9_manOfUnit_20 ?_
    refine lv_topi (fun x_6 e_6 => ?_)
    have h9 : x_6 = nI (n - 1) := by rw [e_6]; exact pk_sub (a := n) (b := 1) (by omega)
    subst h9
    refine lv_iload_n hx hb dX9_manOfUnit_21 rfl (lv_at hl 2 rfl) ?_
    refine lv_isub hx hb dX9_manOfUnit_22 ?_
    refine lv_topi (fun x_7 e_7 => ?_)
    have h9 : x_7 = nI (n - 1 - u) := by rw [e_7]; exact pk_sub (by omega)
    subst h9
    refine lv_goto (tgt := 31) hx hb dX9_manOfUnit_23 (by decide) ?_
    have hpd9 := pd_N (cx := [oX9 h1 po pp ps pa pe pb pv pk pu pw pq pt un fw, oX4 pv ek ef ew ep es (nI n) sy dn, cI aC es 5 stf]) hP hD [0, 1, 2] (by decide) rfl
    have hP9 := hpd9.1
    have hD9 := hpd9.2
    refine W.widen (k := 0) (n := 0) (by omega) (by omega) ?_
    exact W.iret (v := nI (n - 1 - u)) hx hb hr (fun t ht hW => ⟨⟨(nI (n - 1 - u)), (), rfl, by unfold mu; rw [if_pos c_3], by rw [ht]; exact hP9, va_K.moved hW.alike hK, hD9⟩, hS.F ht⟩) hS.2.2 dX9_manOfUnit_31

set_option maxHeartbeats 1000000 in
set_option maxRecDepth 100000 in
/-- X9_addUnit -/
theorem c_X9_addUnit (l : Launch) (dC : Nat → ClassId) (dI : Nat → Nat → Nat) (aC : Nat → ClassId) (sz : Nat) (h1 : Nat) (po : Nat) (pp : Nat) (ps : Nat) (pa : Nat) (pe : Nat) (pb : Nat) (pv : Nat) (pk : Nat) (pu : Nat) (pw : Nat) (pq : Nat) (pt : Nat) (k : Nat) (fw : Nat) (p0 : Nat) (w0 : Nat) (uf : Nat → Int32) (vf : Nat → Int32) (hk : k < 7) (hp : p0 ≤ 1000) (hw : w0 ≤ 1000) : Met l yX9_addUnit (wW yX9_addUnit cX9_addUnit 3 (none : Option FieldType)) ({ frames := 0, cells := 0, slots := 0, locals := 0 } : Room) (va_Pc [Value.ref h1, Value.int (nI p0), Value.int (nI w0)] (fun U => U.heap.size = sz ∧ va_P (dC, dI) classes [oX9 h1 po pp ps pa pe pb pv pk pu pw pq pt (nI k) (nI fw), cI aC pu 7 uf, cI aC pw 7 vf] U.heap ∧ va_K (dC, dI) classes (TY aC) U ∧ va_D (fun _ => True) [oX9 h1 po pp ps pa pe pb pv pk pu pw pq pt (nI k) (nI fw), cI aC pu 7 uf, cI aC pw 7 vf] ∧ NX U)) (va_Qv (fun (u : (Nat → Int32) × (Nat → Int32)) => match u with | (ug, vg) => ug k = nI p0 ∧ (∀ q, q ≠ k → ug q = uf q) ∧ vg k = nI (if 0 < p0 then w0 else 0) ∧ ∀ q, q ≠ k → vg q = vf q) (fun (u : (Nat → Int32) × (Nat → Int32)) (t : State) => match u with | (ug, vg) => va_P (dC, dI) classes [oX9 h1 po pp ps pa pe pb pv pk pu pw pq pt (nI (k + 1)) (nI (fw + (if 0 < p0 then 0 else w0))), cI aC pu 7 ug, cI aC pw 7 vg] t.heap ∧ va_K (dC, dI) classes (TY aC) t ∧ va_D (va_A [oX9 h1 po pp ps pa pe pb pv pk pu pw pq pt (nI k) (nI fw), cI aC pu 7 uf, cI aC pw 7 vf] sz) [oX9 h1 po pp ps pa pe pb pv pk pu pw pq pt (nI (k + 1)) (nI (fw + (if 0 < p0 then 0 else w0))), cI aC pu 7 ug, cI aC pw 7 vg]) (va_A [oX9 h1 po pp ps pa pe pb pv pk pu pw pq pt (nI k) (nI fw), cI aC pu 7 uf, cI aC pw 7 vf] sz)) 0 0 (va_A [oX9 h1 po pp ps pa pe pb pv pk pu pw pq pt (nI k) (nI fw), cI aC pu 7 uf, cI aC pw 7 vf] sz) := by
  refine Met.ofW (cc := cX9_addUnit) (maxL := 3) (ret := (none : Option FieldType)) (by decide) rfl ?_
  intro p e s m args below meth c s₁ B hml hv
  obtain ⟨rfl, hsz, hP, hK, hD0, hN⟩ := hv
  have hx := B.exec
  have hb := B.bytes
  have hr := B.returns
  have hts0 := atoms_spec (ws := (wW yX9_addUnit cX9_addUnit 3 (none : Option FieldType))) B.pre
  have hts : ∀ w9 ∈ lw_G, w9.before ([Value.ref h1, Value.int (nI p0), Value.int (nI w0)] : List Value).toArray s = true := fun w9 h9 => hts0 w9 (List.mem_cons_of_mem _ h9)
  have hown : s.vm.findClass RX9 = some m.cls := findClass_of_methodNamed (x := yX9_addUnit) B.named
  have hlocks := B.notSynchronized
  subst hsz
  have hD := hD0.self (sz := s.heap.size)
  generalize hAe : va_A [oX9 h1 po pp ps pa pe pb pv pk pu pw pq pt (nI k) (nI fw), cI aC pu 7 uf, cI aC pw 7 vf] s.heap.size = A at hD ⊢
  have hA : ∀ q : Nat, s.heap.size ≤ q → A q := fun q h => by rw [← hAe]; exact Or.inr h
  obtain ⟨H, hHe⟩ : ∃ H : Heap, H = s.heap := ⟨_, rfl⟩
  have hS : va_S A s.heap H [] := by rw [hHe]; exact va_S.rf
  have hP : va_P (dC, dI) classes [oX9 h1 po pp ps pa pe pb pv pk pu pw pq pt (nI k) (nI fw), cI aC pu 7 uf, cI aC pw 7 vf] H := by rw [hHe]; exact hP
  have hl := lv_entry ([Value.ref h1, Value.int (nI p0), Value.int (nI w0)]) (n := 3) (Nat.le_of_ble_eq_true rfl)
  rw [lg_entry_eq]
  generalize (lg_sl ([Value.ref h1, Value.int (nI p0), Value.int (nI w0)]) ++ List.replicate (3 - (lg_sl ([Value.ref h1, Value.int (nI p0), Value.int (nI w0)])).length) Slot.unset).toArray = ls at hl ⊢
  have hl : lv_has ls 3 [(0, Value.ref h1), (1, Value.int (nI p0)), (2, Value.int (nI w0))] := hl
  rw [← hHe]
  refine lv_aload_n hx hb dX9_addUnit_0 rfl (lv_at hl 0 rfl) ?_
  refine va_get (D := (dC, dI)) (ci := 9) (v := Value.int (nI k)) (C := RX9) (T := TX9) (N := 14) hx hb hts inX9 hown hK hP 0 rfl rfl 12 (by decide) (hts _ (gw kw_169 rfl)) (fun _ h9 => h9) rfl dX9_addUnit_1 ?_
  refine lv_aload_n hx hb dX9_addUnit_4 rfl (lv_at hl 0 rfl) ?_
  refine va_get (D := (dC, dI)) (ci := 9) (v := Value.ref pu) (C := RX9) (T := TX9) (N := 14) hx hb hts inX9 hown hK hP 0 rfl rfl 8 (by decide) (hts _ (gw kw_165 rfl)) (fun _ h9 => h9) rfl dX9_addUnit_5 ?_
  refine va_alen (v := 7) hx hb hK hP 1 0 rfl rfl rfl dX9_addUnit_8 ?_
  refine lv_icmp_ge (tgt := 68) hx hb dX9_addUnit_9 (by decide) (fun c_1 => ?_) (fun c_1 => ?_)
  · exact absurd ((nI_leI (a := 7) (b := k) (by omega) (by omega)).mp c_1) (by omega)
  · refine lv_aload_n hx hb dX9_addUnit_12 rfl (lv_at hl 0 rfl) ?_
    refine va_get (D := (dC, dI)) (ci := 9) (v := Value.ref pu) (C := RX9) (T := TX9) (N := 14) hx hb hts inX9 hown hK hP 0 rfl rfl 8 (by decide) (hts _ (gw kw_165 rfl)) (fun _ h9 => h9) rfl dX9_addUnit_13 ?_
    refine lv_aload_n hx hb dX9_addUnit_16 rfl (lv_at hl 0 rfl) ?_
    refine va_get (D := (dC, dI)) (ci := 9) (v := Value.int (nI k)) (C := RX9) (T := TX9) (N := 14) hx hb hts inX9 hown hK hP 0 rfl rfl 12 (by decide) (hts _ (gw kw_169 rfl)) (fun _ h9 => h9) rfl dX9_addUnit_17 ?_
    refine lv_iload_n hx hb dX9_addUnit_20 rfl (lv_at hl 1 rfl) ?_
    have h_2 : vp_in (nI k) 7 := by first | exact vp_in_nI (by omega) (by omega) | (unfold vp_in; decide) | (subst_vars; first | (unfold vp_in; decide) | exact vp_in_nI (by omega) (by omega))
    refine va_iast hx hb hK hP hD hS 1 0 rfl rfl h_2 dX9_addUnit_21 (fun H locs hP hD hS => ?_)
    obtain ⟨f_3, e_f_3⟩ : ∃ y : Nat → Int32, y = upd uf (nI k : Int32).toNatClampNeg (nI p0) := ⟨_, rfl⟩
    have hpd9 : PDx (dC, dI) classes A H [oX9 h1 po pp ps pa pe pb pv pk pu pw pq pt (nI k) (nI fw), cI aC pu 7 f_3, cI aC pw 7 vf] := by rw [e_f_3]; exact ⟨hP, hD⟩
    have hP := hpd9.1
    have hD := hpd9.2
    clear hpd9
    refine lv_aload_n hx hb dX9_addUnit_22 rfl (lv_at hl 0 rfl) ?_
    refine va_get (D := (dC, dI)) (ci := 9) (v := Value.ref pw) (C := RX9) (T := TX9) (N := 14) hx hb hts inX9 hown hK hP 0 rfl rfl 9 (by decide) (hts _ (gw kw_166 rfl)) (fun _ h9 => h9) rfl dX9_addUnit_23 ?_
    refine lv_aload_n hx hb dX9_addUnit_26 rfl (lv_at hl 0 rfl) ?_
    refine va_get (D := (dC, dI)) (ci := 9) (v := Value.int (nI k)) (C := RX9) (T := TX9) (N := 14) hx hb hts inX9 hown hK hP 0 rfl rfl 12 (by decide) (hts _ (gw kw_169 rfl)) (fun _ h9 => h9) rfl dX9_addUnit_27 ?_
    refine lv_iload_n hx hb dX9_addUnit_30 rfl (lv_at hl 1 rfl) ?_
    refine lv_if_le (tgt := 38) hx hb dX9_addUnit_31 (by decide) (fun c_4 => ?_) (fun c_4 => ?_)
    · refine lv_iconst (v := 0) hx hb dX9_addUnit_38 (by decide) ?_
      have h_5 : vp_in (nI k) 7 := by first | exact vp_in_nI (by omega) (by omega) | (unfold vp_in; decide) | (subst_vars; first | (unfold vp_in; decide) | exact vp_in_nI (by omega) (by omega))
      refine va_iast hx hb hK hP hD hS 2 0 rfl rfl h_5 dX9_addUnit_39 (fun H locs hP hD hS => ?_)
      obtain ⟨f_6, e_f_6⟩ : ∃ y : Nat → Int32, y = upd vf (nI k : Int32).toNatClampNeg 0 := ⟨_, rfl⟩
      have hpd9 : PDx (dC, dI) classes A H [oX9 h1 po pp ps pa pe pb pv pk pu pw pq pt (nI k) (nI fw), cI aC pu 7 f_3, cI aC pw 7 f_6] := by rw [e_f_6]; exact ⟨hP, hD⟩
      have hP := hpd9.1
      have hD := hpd9.2
      clear hpd9
      have hp0 : p0 = 0 := by have := (nI_leI (a := p0) (b := 0) (by omega) (by omega)).mp c_4; omega
      refine lv_aload_n hx hb dX9_addUnit_40 rfl (lv_at hl 0 rfl) ?_
      refine lv_dup hx hb dX9_addUnit_41 rfl ?_
      refine va_get (D := (dC, dI)) (ci := 9) (v := Value.int (nI fw)) (C := RX9) (T := TX9) (N := 14) hx hb hts inX9 hown hK hP 0 rfl rfl 13 (by decide) (hts _ (gw kw_170 rfl)) (fun _ h9 => h9) rfl dX9_addUnit_42 ?_
      refine lv_iload_n hx hb dX9_addUnit_45 rfl (lv_at hl 1 rfl) ?_
      refine lv_if_le (tgt := 53) hx hb dX9_addUnit_46 (by decide) (fun c_7 => ?_) (fun c_7 => ?_)
      · refine lv_iload_n hx hb dX9_addUnit_53 rfl (lv_at hl 2 rfl) ?_
        refine lv_iadd hx hb dX9_addUnit_54 ?_
        refine lv_topi (fun x_8 e_8 => ?_)
        have h9 : x_8 = nI (fw + (if 0 < p0 then 0 else w0)) := by rw [e_8, if_neg (by omega)]; exact nI_add _ _
        subst h9
        refine va_put (D := (dC, dI)) (ci := 9) (v := Value.int (nI (fw + (if 0 < p0 then 0 else w0)))) (ty := .int) (C := RX9) (T := TX9) (N := 14) hx hb hts inX9 tyX9 tyX9_ok nmX9 hown hK hP hD hS 0 rfl rfl 13 (by decide) (hts _ (gw kw_170 rfl)) (fun _ h9 => h9) rfl (by decide +kernel) rfl rfl (Nat.le_of_ble_eq_true rfl) dX9_addUnit_55 (fun H locs hP hD hS => ?_)
        have hpd9 : PDx (dC, dI) classes A H [oX9 h1 po pp ps pa pe pb pv pk pu pw pq pt (nI k) (nI (fw + (if 0 < p0 then 0 else w0))), cI aC pu 7 f_3, cI aC pw 7 f_6] := ⟨hP, hD⟩
        have hP := hpd9.1
        have hD := hpd9.2
        clear hpd9
        refine lv_aload_n hx hb dX9_addUnit_58 rfl (lv_at hl 0 rfl) ?_
        refine lv_dup hx hb dX9_addUnit_59 rfl ?_
        refine va_get (D := (dC, dI)) (ci := 9) (v := Value.int (nI k)) (C := RX9) (T := TX9) (N := 14) hx hb hts inX9 hown hK hP 0 rfl rfl 12 (by decide) (hts _ (gw kw_169 rfl)) (fun _ h9 => h9) rfl dX9_addUnit_60 ?_
        refine lv_iconst (v := 1) hx hb dX9_addUnit_63 (by decide) ?_
        refine lv_iadd hx hb dX9_addUnit_64 ?_
        refine lv_topi (fun x_9 e_9 => ?_)
        have h9 : x_9 = nI (k + 1) := by rw [e_9, nI_1]
        subst h9
        refine va_put (D := (dC, dI)) (ci := 9) (v := Value.int (nI (k + 1))) (ty := .int) (C := RX9) (T := TX9) (N := 14) hx hb hts inX9 tyX9 tyX9_ok nmX9 hown hK hP hD hS 0 rfl rfl 12 (by decide) (hts _ (gw kw_169 rfl)) (fun _ h9 => h9) rfl (by decide +kernel) rfl rfl (Nat.le_of_ble_eq_true rfl) dX9_addUnit_65 (fun H locs hP hD hS => ?_)
        have hpd9 : PDx (dC, dI) classes A H [oX9 h1 po pp ps pa pe pb pv pk pu pw pq pt (nI (k + 1)) (nI (fw + (if 0 < p0 then 0 else w0))), cI aC pu 7 f_3, cI aC pw 7 f_6] := ⟨hP, hD⟩
        have hP := hpd9.1
        have hD := hpd9.2
        clear hpd9
        have hpd9 := pd_N (cx := [oX9 h1 po pp ps pa pe pb pv pk pu pw pq pt (nI (k + 1)) (nI (fw + (if 0 < p0 then 0 else w0))), cI aC pu 7 f_3, cI aC pw 7 f_6]) hP hD [0, 1, 2] (by decide) rfl
        have hP9 := hpd9.1
        have hD9 := hpd9.2
        refine W.widen (k := 0) (n := 0) (by omega) (by omega) ?_
        exact W.vret hx hb hr (fun t ht hW => ⟨⟨(f_3, f_6), rfl, ⟨by rw [e_f_3, nI_clamp (by omega), pk_us], fun q h => by rw [e_f_3, nI_clamp (by omega), pk_un h], by rw [e_f_6, nI_clamp (by omega), pk_us, if_neg (by omega)]; rfl, fun q h => by rw [e_f_6, nI_clamp (by omega), pk_un h]⟩, by rw [ht]; exact hP9, va_K.moved hW.alike hK, hD9⟩, hS.F ht⟩) hS.2.2 dX9_addUnit_68
      · exact absurd c_4 c_7
    · refine lv_iload_n hx hb dX9_addUnit_34 rfl (lv_at hl 2 rfl) ?_
      refine lv_goto (tgt := 39) hx hb dX9_addUnit_35 (by decide) ?_
      have h_10 : vp_in (nI k) 7 := by first | exact vp_in_nI (by omega) (by omega) | (unfold vp_in; decide) | (subst_vars; first | (unfold vp_in; decide) | exact vp_in_nI (by omega) (by omega))
      refine va_iast hx hb hK hP hD hS 2 0 rfl rfl h_10 dX9_addUnit_39 (fun H locs hP hD hS => ?_)
      obtain ⟨f_11, e_f_11⟩ : ∃ y : Nat → Int32, y = upd vf (nI k : Int32).toNatClampNeg (nI w0) := ⟨_, rfl⟩
      have hpd9 : PDx (dC, dI) classes A H [oX9 h1 po pp ps pa pe pb pv pk pu pw pq pt (nI k) (nI fw), cI aC pu 7 f_3, cI aC pw 7 f_11] := by rw [e_f_11]; exact ⟨hP, hD⟩
      have hP := hpd9.1
      have hD := hpd9.2
      clear hpd9
      have hp0 : 0 < p0 := by
        rcases Nat.eq_zero_or_pos p0 with q | q
        · exact absurd (by rw [q]; decide) c_4
        · exact q
      refine lv_aload_n hx hb dX9_addUnit_40 rfl (lv_at hl 0 rfl) ?_
      refine lv_dup hx hb dX9_addUnit_41 rfl ?_
      refine va_get (D := (dC, dI)) (ci := 9) (v := Value.int (nI fw)) (C := RX9) (T := TX9) (N := 14) hx hb hts inX9 hown hK hP 0 rfl rfl 13 (by decide) (hts _ (gw kw_170 rfl)) (fun _ h9 => h9) rfl dX9_addUnit_42 ?_
      refine lv_iload_n hx hb dX9_addUnit_45 rfl (lv_at hl 1 rfl) ?_
      refine lv_if_le (tgt := 53) hx hb dX9_addUnit_46 (by decide) (fun c_12 => ?_) (fun c_12 => ?_)
      · exact absurd ((nI_leI (a := p0) (b := 0) (by omega) (by omega)).mp c_12) (by omega)
      · refine lv_iconst (v := 0) hx hb dX9_addUnit_49 (by decide) ?_
        refine lv_goto (tgt := 54) hx hb dX9_addUnit_50 (by decide) ?_
        refine lv_iadd hx hb dX9_addUnit_54 ?_
        refine lv_topi (fun x_13 e_13 => ?_)
        have h9 : x_13 = nI (fw + (if 0 < p0 then 0 else w0)) := by rw [e_13, if_pos hp0]; exact nI_add _ _
        subst h9
        refine va_put (D := (dC, dI)) (ci := 9) (v := Value.int (nI (fw + (if 0 < p0 then 0 else w0)))) (ty := .int) (C := RX9) (T := TX9) (N := 14) hx hb hts inX9 tyX9 tyX9_ok nmX9 hown hK hP hD hS 0 rfl rfl 13 (by decide) (hts _ (gw kw_170 rfl)) (fun _ h9 => h9) rfl (by decide +kernel) rfl rfl (Nat.le_of_ble_eq_true rfl) dX9_addUnit_55 (fun H locs hP hD hS => ?_)
        have hpd9 : PDx (dC, dI) classes A H [oX9 h1 po pp ps pa pe pb pv pk pu pw pq pt (nI k) (nI (fw + (if 0 < p0 then 0 else w0))), cI aC pu 7 f_3, cI aC pw 7 f_11] := ⟨hP, hD⟩
        have hP := hpd9.1
        have hD := hpd9.2
        clear hpd9
        refine lv_aload_n hx hb dX9_addUnit_58 rfl (lv_at hl 0 rfl) ?_
        refine lv_dup hx hb dX9_addUnit_59 rfl ?_
        refine va_get (D := (dC, dI)) (ci := 9) (v := Value.int (nI k)) (C := RX9) (T := TX9) (N := 14) hx hb hts inX9 hown hK hP 0 rfl rfl 12 (by decide) (hts _ (gw kw_169 rfl)) (fun _ h9 => h9) rfl dX9_addUnit_60 ?_
        refine lv_iconst (v := 1) hx hb dX9_addUnit_63 (by decide) ?_
        refine lv_iadd hx hb dX9_addUnit_64 ?_
        refine lv_topi (fun x_14 e_14 => ?_)
        have h9 : x_14 = nI (k + 1) := by rw [e_14, nI_1]
        subst h9
        refine va_put (D := (dC, dI)) (ci := 9) (v := Value.int (nI (k + 1))) (ty := .int) (C := RX9) (T := TX9) (N := 14) hx hb hts inX9 tyX9 tyX9_ok nmX9 hown hK hP hD hS 0 rfl rfl 12 (by decide) (hts _ (gw kw_169 rfl)) (fun _ h9 => h9) rfl (by decide +kernel) rfl rfl (Nat.le_of_ble_eq_true rfl) dX9_addUnit_65 (fun H locs hP hD hS => ?_)
        have hpd9 : PDx (dC, dI) classes A H [oX9 h1 po pp ps pa pe pb pv pk pu pw pq pt (nI (k + 1)) (nI (fw + (if 0 < p0 then 0 else w0))), cI aC pu 7 f_3, cI aC pw 7 f_11] := ⟨hP, hD⟩
        have hP := hpd9.1
        have hD := hpd9.2
        clear hpd9
        have hpd9 := pd_N (cx := [oX9 h1 po pp ps pa pe pb pv pk pu pw pq pt (nI (k + 1)) (nI (fw + (if 0 < p0 then 0 else w0))), cI aC pu 7 f_3, cI aC pw 7 f_11]) hP hD [0, 1, 2] (by decide) rfl
        have hP9 := hpd9.1
        have hD9 := hpd9.2
        refine W.widen (k := 0) (n := 0) (by omega) (by omega) ?_
        exact W.vret hx hb hr (fun t ht hW => ⟨⟨(f_3, f_11), rfl, ⟨by rw [e_f_3, nI_clamp (by omega), pk_us], fun q h => by rw [e_f_3, nI_clamp (by omega), pk_un h], by rw [e_f_11, nI_clamp (by omega), pk_us, if_pos hp0], fun q h => by rw [e_f_11, nI_clamp (by omega), pk_un h]⟩, by rw [ht]; exact hP9, va_K.moved hW.alike hK, hD9⟩, hS.F ht⟩) hS.2.2 dX9_addUnit_68

set_option maxHeartbeats 1000000 in
set_option maxRecDepth 100000 in
/-- X9_listSets -/
theorem c_X9_listSets (l : Launch) (dC : Nat → ClassId) (dI : Nat → Nat → Nat) (aC : Nat → ClassId) (sz : Nat) (h1 : Nat) (po : Nat) (pp : Nat) (ps : Nat) (pa : Nat) (pe : Nat) (pb : Nat) (pv : Nat) (pk : Nat) (pu : Nat) (pw : Nat) (pq : Nat) (pt : Nat) (k : Nat) (fw : Nat) (ow : Nat) (up : Nat → Nat) (uw : Nat → Nat) (uf : Nat → Int32) (vf : Nat → Int32) (qf : Nat → Int32) (tf : Nat → Int32) (hk : k ≤ 7) (hu : ∀ u, u < k → uf u = nI (up u) ∧ vf u = nI (uw u)) : Met l yX9_listSets (wW yX9_listSets cX9_listSets 5 (some .int)) ({ frames := 0, cells := 0, slots := 0, locals := 0 } : Room) (va_Pc [Value.ref h1, Value.int (nI ow)] (fun U => U.heap.size = sz ∧ va_P (dC, dI) classes [oX9 h1 po pp ps pa pe pb pv pk pu pw pq pt (nI k) (nI fw), cI aC pu 7 uf, cI aC pw 7 vf, cI aC pq 128 qf, cI aC pt 128 tf] U.heap ∧ va_K (dC, dI) classes (TY aC) U ∧ va_D (fun _ => True) [oX9 h1 po pp ps pa pe pb pv pk pu pw pq pt (nI k) (nI fw), cI aC pu 7 uf, cI aC pw 7 vf, cI aC pq 128 qf, cI aC pt 128 tf] ∧ NX U)) (va_Qi (fun (r : Int32) (u : (Nat → Int32) × (Nat → Int32)) => match u with | (qg, tg) => r = nI (2 ^ k) ∧ ∀ x, x < 2 ^ k → qg x = nI (cst up x) ∧ tg x = nI (ow + fw + cst uw x)) (fun (u : (Nat → Int32) × (Nat → Int32)) (t : State) => match u with | (qg, tg) => va_P (dC, dI) classes [oX9 h1 po pp ps pa pe pb pv pk pu pw pq pt (nI k) (nI fw), cI aC pu 7 uf, cI aC pw 7 vf, cI aC pq 128 qg, cI aC pt 128 tg] t.heap ∧ va_K (dC, dI) classes (TY aC) t ∧ va_D (va_A [oX9 h1 po pp ps pa pe pb pv pk pu pw pq pt (nI k) (nI fw), cI aC pu 7 uf, cI aC pw 7 vf, cI aC pq 128 qf, cI aC pt 128 tf] sz) [oX9 h1 po pp ps pa pe pb pv pk pu pw pq pt (nI k) (nI fw), cI aC pu 7 uf, cI aC pw 7 vf, cI aC pq 128 qg, cI aC pt 128 tg]) (va_A [oX9 h1 po pp ps pa pe pb pv pk pu pw pq pt (nI k) (nI fw), cI aC pu 7 uf, cI aC pw 7 vf, cI aC pq 128 qf, cI aC pt 128 tf] sz)) 0 0 (va_A [oX9 h1 po pp ps pa pe pb pv pk pu pw pq pt (nI k) (nI fw), cI aC pu 7 uf, cI aC pw 7 vf, cI aC pq 128 qf, cI aC pt 128 tf] sz) := by
  refine Met.ofW (cc := cX9_listSets) (maxL := 5) (ret := (some .int)) (by decide) rfl ?_
  intro p e s m args below meth c s₁ B hml hv
  obtain ⟨rfl, hsz, hP, hK, hD0, hN⟩ := hv
  have hx := B.exec
  have hb := B.bytes
  have hr := B.returns
  have hts0 := atoms_spec (ws := (wW yX9_listSets cX9_listSets 5 (some .int))) B.pre
  have hts : ∀ w9 ∈ lw_G, w9.before ([Value.ref h1, Value.int (nI ow)] : List Value).toArray s = true := fun w9 h9 => hts0 w9 (List.mem_cons_of_mem _ h9)
  have hown : s.vm.findClass RX9 = some m.cls := findClass_of_methodNamed (x := yX9_listSets) B.named
  have hlocks := B.notSynchronized
  subst hsz
  have hD := hD0.self (sz := s.heap.size)
  generalize hAe : va_A [oX9 h1 po pp ps pa pe pb pv pk pu pw pq pt (nI k) (nI fw), cI aC pu 7 uf, cI aC pw 7 vf, cI aC pq 128 qf, cI aC pt 128 tf] s.heap.size = A at hD ⊢
  have hA : ∀ q : Nat, s.heap.size ≤ q → A q := fun q h => by rw [← hAe]; exact Or.inr h
  obtain ⟨H, hHe⟩ : ∃ H : Heap, H = s.heap := ⟨_, rfl⟩
  have hS : va_S A s.heap H [] := by rw [hHe]; exact va_S.rf
  have hP : va_P (dC, dI) classes [oX9 h1 po pp ps pa pe pb pv pk pu pw pq pt (nI k) (nI fw), cI aC pu 7 uf, cI aC pw 7 vf, cI aC pq 128 qf, cI aC pt 128 tf] H := by rw [hHe]; exact hP
  have hl := lv_entry ([Value.ref h1, Value.int (nI ow)]) (n := 5) (Nat.le_of_ble_eq_true rfl)
  rw [lg_entry_eq]
  generalize (lg_sl ([Value.ref h1, Value.int (nI ow)]) ++ List.replicate (5 - (lg_sl ([Value.ref h1, Value.int (nI ow)])).length) Slot.unset).toArray = ls at hl ⊢
  have hl : lv_has ls 5 [(0, Value.ref h1), (1, Value.int (nI ow))] := hl
  rw [← hHe]
  refine lv_aload_n hx hb dX9_listSets_0 rfl (lv_at hl 0 rfl) ?_
  refine va_get (D := (dC, dI)) (ci := 9) (v := Value.ref pq) (C := RX9) (T := TX9) (N := 14) hx hb hts inX9 hown hK hP 0 rfl rfl 10 (by decide) (hts _ (gw kw_167 rfl)) (fun _ h9 => h9) rfl dX9_listSets_1 ?_
  refine lv_iconst (v := 0) hx hb dX9_listSets_4 (by decide) ?_
  refine lv_iconst (v := 0) hx hb dX9_listSets_5 (by decide) ?_
  have h_1 : vp_in 0 128 := by first | exact vp_in_nI (by omega) (by omega) | (unfold vp_in; decide) | (subst_vars; first | (unfold vp_in; decide) | exact vp_in_nI (by omega) (by omega))
  refine va_iast hx hb hK hP hD hS 3 0 rfl rfl h_1 dX9_listSets_6 (fun H locs hP hD hS => ?_)
  obtain ⟨f_2, e_f_2⟩ : ∃ y : Nat → Int32, y = upd qf (0 : Int32).toNatClampNeg 0 := ⟨_, rfl⟩
  have hpd9 : PDx (dC, dI) classes A H [oX9 h1 po pp ps pa pe pb pv pk pu pw pq pt (nI k) (nI fw), cI aC pu 7 uf, cI aC pw 7 vf, cI aC pq 128 f_2, cI aC pt 128 tf] := by rw [e_f_2]; exact ⟨hP, hD⟩
  have hP := hpd9.1
  have hD := hpd9.2
  clear hpd9
  refine lv_aload_n hx hb dX9_listSets_7 rfl (lv_at hl 0 rfl) ?_
  refine va_get (D := (dC, dI)) (ci := 9) (v := Value.ref pt) (C := RX9) (T := TX9) (N := 14) hx hb hts inX9 hown hK hP 0 rfl rfl 11 (by decide) (hts _ (gw kw_168 rfl)) (fun _ h9 => h9) rfl dX9_listSets_8 ?_
  refine lv_iconst (v := 0) hx hb dX9_listSets_11 (by decide) ?_
  refine lv_iload_n hx hb dX9_listSets_12 rfl (lv_at hl 1 rfl) ?_
  refine lv_aload_n hx hb dX9_listSets_13 rfl (lv_at hl 0 rfl) ?_
  refine va_get (D := (dC, dI)) (ci := 9) (v := Value.int (nI fw)) (C := RX9) (T := TX9) (N := 14) hx hb hts inX9 hown hK hP 0 rfl rfl 13 (by decide) (hts _ (gw kw_170 rfl)) (fun _ h9 => h9) rfl dX9_listSets_14 ?_
  refine lv_iadd hx hb dX9_listSets_17 ?_
  refine lv_topi (fun x_3 e_3 => ?_)
  have h9 : x_3 = nI (ow + fw) := by rw [e_3, nI_add]
  subst h9
  have h_4 : vp_in 0 128 := by first | exact vp_in_nI (by omega) (by omega) | (unfold vp_in; decide) | (subst_vars; first | (unfold vp_in; decide) | exact vp_in_nI (by omega) (by omega))
  refine va_iast hx hb hK hP hD hS 4 0 rfl rfl h_4 dX9_listSets_18 (fun H locs hP hD hS => ?_)
  obtain ⟨f_5, e_f_5⟩ : ∃ y : Nat → Int32, y = upd tf (0 : Int32).toNatClampNeg (nI (ow + fw)) := ⟨_, rfl⟩
  have hpd9 : PDx (dC, dI) classes A H [oX9 h1 po pp ps pa pe pb pv pk pu pw pq pt (nI k) (nI fw), cI aC pu 7 uf, cI aC pw 7 vf, cI aC pq 128 f_2, cI aC pt 128 f_5] := by rw [e_f_5]; exact ⟨hP, hD⟩
  have hP := hpd9.1
  have hD := hpd9.2
  clear hpd9
  refine lv_iconst (v := 0) hx hb dX9_listSets_19 (by decide) ?_
  refine lv_istore_n (lv' := [(2, Value.int 0), (0, Value.ref h1), (1, Value.int (nI ow))]) hx hb dX9_listSets_20 rfl hl (by decide) rfl (fun ls hl => ?_)
  have hs0 : ∀ x, x < 2 ^ 0 → f_2 x = nI (cst up x) ∧ f_5 x = nI (ow + fw + cst uw x) := fun x hx => by
    have hx0 : x = 0 := by have : 2 ^ 0 = 1 := rfl; omega
    subst hx0
    rw [e_f_2, e_f_5, cst_0, cst_0]
    exact ⟨rfl, rfl⟩
  have lp_21 : ∀ (fu : Nat) (t : Nat) (qc : Nat → Int32) (tc : Nat → Int32) (hfu : k - t < fu) (ht : t ≤ k) (hs : ∀ x, x < 2 ^ t → qc x = nI (cst up x) ∧ tc x = nI (ow + fw + cst uw x)) (H : Heap) (locs : List Loc) (ls : Array Slot), va_P (dC, dI) classes [oX9 h1 po pp ps pa pe pb pv pk pu pw pq pt (nI k) (nI fw), cI aC pu 7 uf, cI aC pw 7 vf, cI aC pq 128 qc, cI aC pt 128 tc] H → va_D A [oX9 h1 po pp ps pa pe pb pv pk pu pw pq pt (nI k) (nI fw), cI aC pu 7 uf, cI aC pw 7 vf, cI aC pq 128 qc, cI aC pt 128 tc] → va_S A s.heap H locs → lv_has ls 5 [(0, Value.ref h1), (1, Value.int (nI ow)), (2, Value.int (nI t))] → W p l e (headSpec (wW yX9_listSets cX9_listSets 5 (some .int)) ({ frames := 0, cells := 0, slots := 0, locals := 0 } : Room)).room s m ([Value.ref h1, Value.int (nI ow)] : List Value).toArray below meth c H locs 0 0 (MQ below (va_Qi (fun (r : Int32) (u : (Nat → Int32) × (Nat → Int32)) => match u with | (qg, tg) => r = nI (2 ^ k) ∧ ∀ x, x < 2 ^ k → qg x = nI (cst up x) ∧ tg x = nI (ow + fw + cst uw x)) (fun (u : (Nat → Int32) × (Nat → Int32)) (t : State) => match u with | (qg, tg) => va_P (dC, dI) classes [oX9 h1 po pp ps pa pe pb pv pk pu pw pq pt (nI k) (nI fw), cI aC pu 7 uf, cI aC pw 7 vf, cI aC pq 128 qg, cI aC pt 128 tg] t.heap ∧ va_K (dC, dI) classes (TY aC) t ∧ va_D A [oX9 h1 po pp ps pa pe pb pv pk pu pw pq pt (nI k) (nI fw), cI aC pu 7 uf, cI aC pw 7 vf, cI aC pq 128 qg, cI aC pt 128 tg]) A) ([Value.ref h1, Value.int (nI ow)] : List Value).toArray s 0 0 A) (F0 m 21 ls []) := by
    intro fu
    induction fu with
    | zero => intro t qc tc hfu; exact absurd hfu (Nat.not_lt_zero _)
    | succ fu ih_21 =>
      intro t qc tc hfu ht hs H locs ls hP hD hS hl
      refine lv_iload_n hx hb dX9_listSets_21 rfl (lv_at hl 2 rfl) ?_
      refine lv_aload_n hx hb dX9_listSets_22 rfl (lv_at hl 0 rfl) ?_
      refine va_get (D := (dC, dI)) (ci := 9) (v := Value.int (nI k)) (C := RX9) (T := TX9) (N := 14) hx hb hts inX9 hown hK hP 0 rfl rfl 12 (by decide) (hts _ (gw kw_169 rfl)) (fun _ h9 => h9) rfl dX9_listSets_23 ?_
      refine lv_icmp_ge (tgt := 100) hx hb dX9_listSets_26 (by decide) (fun c_6 => ?_) (fun c_6 => ?_)
      · have hte : t = k := by
          rcases Nat.lt_or_ge t k with q | q
          · exact absurd c_6 (nI_ge q (by omega))
          · omega
        refine lv_iconst (v := 1) hx hb dX9_listSets_100 (by decide) ?_
        refine lv_aload_n hx hb dX9_listSets_101 rfl (lv_at hl 0 rfl) ?_
        refine va_get (D := (dC, dI)) (ci := 9) (v := Value.int (nI k)) (C := RX9) (T := TX9) (N := 14) hx hb hts inX9 hown hK hP 0 rfl rfl 12 (by decide) (hts _ (gw kw_169 rfl)) (fun _ h9 => h9) rfl dX9_listSets_102 ?_
        refine lv_ishl hx hb dX9_listSets_105 ?_
        refine lv_topi (fun x_7 e_7 => ?_)
        have h9 : x_7 = nI (2 ^ k) := by rw [e_7]; exact sh1 k (by omega)
        subst h9
        have hpd9 := pd_N (cx := [oX9 h1 po pp ps pa pe pb pv pk pu pw pq pt (nI k) (nI fw), cI aC pu 7 uf, cI aC pw 7 vf, cI aC pq 128 qc, cI aC pt 128 tc]) hP hD [0, 1, 2, 3, 4] (by decide) rfl
        have hP9 := hpd9.1
        have hD9 := hpd9.2
        refine W.widen (k := 0) (n := 0) (by omega) (by omega) ?_
        exact W.iret (v := nI (2 ^ k)) hx hb hr (fun t ht hW => ⟨⟨(nI (2 ^ k)), (qc, tc), rfl, ⟨rfl, fun x hx => hs x (by rw [hte]; exact hx)⟩, by rw [ht]; exact hP9, va_K.moved hW.alike hK, hD9⟩, hS.F ht⟩) hS.2.2 dX9_listSets_106
      · have hlt : t < k := by
          rcases Nat.lt_or_ge t k with q | q
          · exact q
          · exact absurd (nI_le q (by omega)) c_6
        have hp6 := p2_le6 (t := t) (by omega)
        obtain ⟨hu1, hu2⟩ := hu t hlt
        refine lv_iconst (v := 1) hx hb dX9_listSets_29 (by decide) ?_
        refine lv_iload_n hx hb dX9_listSets_30 rfl (lv_at hl 2 rfl) ?_
        refine lv_ishl hx hb dX9_listSets_31 ?_
        refine lv_topi (fun x_8 e_8 => ?_)
        have h9 : x_8 = nI (2 ^ t) := by rw [e_8]; exact sh1 t (by omega)
        subst h9
        refine lv_istore_n (lv' := [(3, Value.int (nI (2 ^ t))), (0, Value.ref h1), (1, Value.int (nI ow)), (2, Value.int (nI t))]) hx hb dX9_listSets_32 rfl hl (by decide) rfl (fun ls hl => ?_)
        refine lv_iconst (v := 0) hx hb dX9_listSets_33 (by decide) ?_
        refine lv_istore (lv' := [(4, Value.int 0), (3, Value.int (nI (2 ^ t))), (0, Value.ref h1), (1, Value.int (nI ow)), (2, Value.int (nI t))]) hx hb dX9_listSets_34 hl (by decide) rfl (fun ls hl => ?_)
        have lp_36 : ∀ (fu : Nat) (x : Nat) (qd : Nat → Int32) (td : Nat → Int32) (hfu : 2 ^ t - x < fu) (hxx : x ≤ 2 ^ t) (hd : ∀ z, z < 2 ^ t + x → qd z = nI (cst up z) ∧ td z = nI (ow + fw + cst uw z)) (H : Heap) (locs : List Loc) (ls : Array Slot), va_P (dC, dI) classes [oX9 h1 po pp ps pa pe pb pv pk pu pw pq pt (nI k) (nI fw), cI aC pu 7 uf, cI aC pw 7 vf, cI aC pq 128 qd, cI aC pt 128 td] H → va_D A [oX9 h1 po pp ps pa pe pb pv pk pu pw pq pt (nI k) (nI fw), cI aC pu 7 uf, cI aC pw 7 vf, cI aC pq 128 qd, cI aC pt 128 td] → va_S A s.heap H locs → lv_has ls 5 [(0, Value.ref h1), (1, Value.int (nI ow)), (2, Value.int (nI t)), (3, Value.int (nI (2 ^ t))), (4, Value.int (nI x))] → W p l e (headSpec (wW yX9_listSets cX9_listSets 5 (some .int)) ({ frames := 0, cells := 0, slots := 0, locals := 0 } : Room)).room s m ([Value.ref h1, Value.int (nI ow)] : List Value).toArray below meth c H locs 0 0 (MQ below (va_Qi (fun (r : Int32) (u : (Nat → Int32) × (Nat → Int32)) => match u with | (qg, tg) => r = nI (2 ^ k) ∧ ∀ x, x < 2 ^ k → qg x = nI (cst up x) ∧ tg x = nI (ow + fw + cst uw x)) (fun (u : (Nat → Int32) × (Nat → Int32)) (t : State) => match u with | (qg, tg) => va_P (dC, dI) classes [oX9 h1 po pp ps pa pe pb pv pk pu pw pq pt (nI k) (nI fw), cI aC pu 7 uf, cI aC pw 7 vf, cI aC pq 128 qg, cI aC pt 128 tg] t.heap ∧ va_K (dC, dI) classes (TY aC) t ∧ va_D A [oX9 h1 po pp ps pa pe pb pv pk pu pw pq pt (nI k) (nI fw), cI aC pu 7 uf, cI aC pw 7 vf, cI aC pq 128 qg, cI aC pt 128 tg]) A) ([Value.ref h1, Value.int (nI ow)] : List Value).toArray s 0 0 A) (F0 m 36 ls []) := by
          intro fu
          induction fu with
          | zero => intro x qd td hfu; exact absurd hfu (Nat.not_lt_zero _)
          | succ fu ih_36 =>
            intro x qd td hfu hxx hd H locs ls hP hD hS hl
            refine lv_iload hx hb dX9_listSets_36 (lv_at hl 4 rfl) ?_
            refine lv_iload_n hx hb dX9_listSets_38 rfl (lv_at hl 3 rfl) ?_
            refine lv_icmp_ge (tgt := 94) hx hb dX9_listSets_39 (by decide) (fun c_9 => ?_) (fun c_9 => ?_)
            · have hxe : x = 2 ^ t := by
                rcases Nat.lt_or_ge x (2 ^ t) with q | q
                · exact absurd c_9 (nI_ge q (by omega))
                · omega
              have hb1 : ∀ x, x < 2 ^ (t + 1) → qd x = nI (cst up x) ∧ td x = nI (ow + fw + cst uw x) := fun z hz => hd z (by rw [Nat.pow_succ] at hz; omega)
              obtain ⟨x_10, e_10⟩ : ∃ y : Int32, y = (nI t) + 1 := ⟨_, rfl⟩
              refine lv_iinc (v := x_10) (lv' := [(2, Value.int x_10), (0, Value.ref h1), (1, Value.int (nI ow)), (3, Value.int (nI (2 ^ t))), (4, Value.int (nI x))]) hx hb dX9_listSets_94 hl (k := 2) rfl (by rw [e_10]; rfl) (by decide) rfl (fun ls hl => ?_)
              have h9 : x_10 = nI (t + 1) := by rw [e_10, nI_1]
              subst h9
              refine lv_goto (tgt := 21) hx hb dX9_listSets_97 (by decide) ?_
              exact ih_21 (t + 1) qd td (by omega) (by omega) (hb1) _ _ _ (hP.sub [0, 1, 2, 3, 4] rfl) (hD.sub [0, 1, 2, 3, 4] (by decide) rfl) hS (lv_sub hl [1, 2, 0] rfl)
            · have hlx : x < 2 ^ t := by
                rcases Nat.lt_or_ge x (2 ^ t) with q | q
                · exact q
                · exact absurd (nI_le q (by omega)) c_9
              obtain ⟨hd1, hd2⟩ := hd x (by omega)
              refine lv_aload_n hx hb dX9_listSets_42 rfl (lv_at hl 0 rfl) ?_
              refine va_get (D := (dC, dI)) (ci := 9) (v := Value.ref pq) (C := RX9) (T := TX9) (N := 14) hx hb hts inX9 hown hK hP 0 rfl rfl 10 (by decide) (hts _ (gw kw_167 rfl)) (fun _ h9 => h9) rfl dX9_listSets_43 ?_
              refine lv_iload_n hx hb dX9_listSets_46 rfl (lv_at hl 3 rfl) ?_
              refine lv_iload hx hb dX9_listSets_47 (lv_at hl 4 rfl) ?_
              refine lv_iadd hx hb dX9_listSets_49 ?_
              refine lv_topi (fun x_11 e_11 => ?_)
              have h9 : x_11 = nI (2 ^ t + x) := by rw [e_11, nI_add]
              subst h9
              refine lv_aload_n hx hb dX9_listSets_50 rfl (lv_at hl 0 rfl) ?_
              refine va_get (D := (dC, dI)) (ci := 9) (v := Value.ref pq) (C := RX9) (T := TX9) (N := 14) hx hb hts inX9 hown hK hP 0 rfl rfl 10 (by decide) (hts _ (gw kw_167 rfl)) (fun _ h9 => h9) rfl dX9_listSets_51 ?_
              refine lv_iload hx hb dX9_listSets_54 (lv_at hl 4 rfl) ?_
              have h_12 : vp_in (nI x) 128 := by first | exact vp_in_nI (by omega) (by omega) | (unfold vp_in; decide) | (subst_vars; first | (unfold vp_in; decide) | exact vp_in_nI (by omega) (by omega))
              refine va_iald hx hb hK hP 3 0 rfl rfl h_12 dX9_listSets_56 ?_
              refine lv_topi (fun x_13 e_13 => ?_)
              have h9 : x_13 = nI (cst up x) := by rw [e_13, nI_clamp (by omega)]; exact hd1
              subst h9
              refine lv_aload_n hx hb dX9_listSets_57 rfl (lv_at hl 0 rfl) ?_
              refine va_get (D := (dC, dI)) (ci := 9) (v := Value.ref pu) (C := RX9) (T := TX9) (N := 14) hx hb hts inX9 hown hK hP 0 rfl rfl 8 (by decide) (hts _ (gw kw_165 rfl)) (fun _ h9 => h9) rfl dX9_listSets_58 ?_
              refine lv_iload_n hx hb dX9_listSets_61 rfl (lv_at hl 2 rfl) ?_
              have h_14 : vp_in (nI t) 7 := by first | exact vp_in_nI (by omega) (by omega) | (unfold vp_in; decide) | (subst_vars; first | (unfold vp_in; decide) | exact vp_in_nI (by omega) (by omega))
              refine va_iald hx hb hK hP 1 0 rfl rfl h_14 dX9_listSets_62 ?_
              refine lv_topi (fun x_15 e_15 => ?_)
              have h9 : x_15 = nI (up t) := by rw [e_15, nI_clamp (by omega)]; exact hu1
              subst h9
              refine lv_iadd hx hb dX9_listSets_63 ?_
              refine lv_topi (fun x_16 e_16 => ?_)
              have h9 : x_16 = nI (cst up (2 ^ t + x)) := by rw [e_16, nI_add, cst_add (by omega) hlx]
              subst h9
              have h_17 : vp_in (nI (2 ^ t + x)) 128 := by first | exact vp_in_nI (by omega) (by omega) | (unfold vp_in; decide) | (subst_vars; first | (unfold vp_in; decide) | exact vp_in_nI (by omega) (by omega))
              refine va_iast hx hb hK hP hD hS 3 0 rfl rfl h_17 dX9_listSets_64 (fun H locs hP hD hS => ?_)
              obtain ⟨f_18, e_f_18⟩ : ∃ y : Nat → Int32, y = upd qd (nI (2 ^ t + x) : Int32).toNatClampNeg (nI (cst up (2 ^ t + x))) := ⟨_, rfl⟩
              have hpd9 : PDx (dC, dI) classes A H [oX9 h1 po pp ps pa pe pb pv pk pu pw pq pt (nI k) (nI fw), cI aC pu 7 uf, cI aC pw 7 vf, cI aC pq 128 f_18, cI aC pt 128 td] := by rw [e_f_18]; exact ⟨hP, hD⟩
              have hP := hpd9.1
              have hD := hpd9.2
              clear hpd9
              refine lv_aload_n hx hb dX9_listSets_65 rfl (lv_at hl 0 rfl) ?_
              refine va_get (D := (dC, dI)) (ci := 9) (v := Value.ref pt) (C := RX9) (T := TX9) (N := 14) hx hb hts inX9 hown hK hP 0 rfl rfl 11 (by decide) (hts _ (gw kw_168 rfl)) (fun _ h9 => h9) rfl dX9_listSets_66 ?_
              refine lv_iload_n hx hb dX9_listSets_69 rfl (lv_at hl 3 rfl) ?_
              refine lv_iload hx hb dX9_listSets_70 (lv_at hl 4 rfl) ?_
              refine lv_iadd hx hb dX9_listSets_72 ?_
              refine lv_topi (fun x_19 e_19 => ?_)
              have h9 : x_19 = nI (2 ^ t + x) := by rw [e_19, nI_add]
              subst h9
              refine lv_aload_n hx hb dX9_listSets_73 rfl (lv_at hl 0 rfl) ?_
              refine va_get (D := (dC, dI)) (ci := 9) (v := Value.ref pt) (C := RX9) (T := TX9) (N := 14) hx hb hts inX9 hown hK hP 0 rfl rfl 11 (by decide) (hts _ (gw kw_168 rfl)) (fun _ h9 => h9) rfl dX9_listSets_74 ?_
              refine lv_iload hx hb dX9_listSets_77 (lv_at hl 4 rfl) ?_
              have h_20 : vp_in (nI x) 128 := by first | exact vp_in_nI (by omega) (by omega) | (unfold vp_in; decide) | (subst_vars; first | (unfold vp_in; decide) | exact vp_in_nI (by omega) (by omega))
              refine va_iald hx hb hK hP 4 0 rfl rfl h_20 dX9_listSets_79 ?_
              refine lv_topi (fun x_21 e_21 => ?_)
              have h9 : x_21 = nI (ow + fw + cst uw x) := by rw [e_21, nI_clamp (by omega)]; exact hd2
              subst h9
              refine lv_aload_n hx hb dX9_listSets_80 rfl (lv_at hl 0 rfl) ?_
              refine va_get (D := (dC, dI)) (ci := 9) (v := Value.ref pw) (C := RX9) (T := TX9) (N := 14) hx hb hts inX9 hown hK hP 0 rfl rfl 9 (by decide) (hts _ (gw kw_166 rfl)) (fun _ h9 => h9) rfl dX9_listSets_81 ?_
              refine lv_iload_n hx hb dX9_listSets_84 rfl (lv_at hl 2 rfl) ?_
              have h_22 : vp_in (nI t) 7 := by first | exact vp_in_nI (by omega) (by omega) | (unfold vp_in; decide) | (subst_vars; first | (unfold vp_in; decide) | exact vp_in_nI (by omega) (by omega))
              refine va_iald hx hb hK hP 2 0 rfl rfl h_22 dX9_listSets_85 ?_
              refine lv_topi (fun x_23 e_23 => ?_)
              have h9 : x_23 = nI (uw t) := by rw [e_23, nI_clamp (by omega)]; exact hu2
              subst h9
              refine lv_iadd hx hb dX9_listSets_86 ?_
              refine lv_topi (fun x_24 e_24 => ?_)
              have h9 : x_24 = nI (ow + fw + cst uw (2 ^ t + x)) := by rw [e_24, nI_add, cst_add (by omega) hlx, Nat.add_assoc]
              subst h9
              have h_25 : vp_in (nI (2 ^ t + x)) 128 := by first | exact vp_in_nI (by omega) (by omega) | (unfold vp_in; decide) | (subst_vars; first | (unfold vp_in; decide) | exact vp_in_nI (by omega) (by omega))
              refine va_iast hx hb hK hP hD hS 4 0 rfl rfl h_25 dX9_listSets_87 (fun H locs hP hD hS => ?_)
              obtain ⟨f_26, e_f_26⟩ : ∃ y : Nat → Int32, y = upd td (nI (2 ^ t + x) : Int32).toNatClampNeg (nI (ow + fw + cst uw (2 ^ t + x))) := ⟨_, rfl⟩
              have hpd9 : PDx (dC, dI) classes A H [oX9 h1 po pp ps pa pe pb pv pk pu pw pq pt (nI k) (nI fw), cI aC pu 7 uf, cI aC pw 7 vf, cI aC pq 128 f_18, cI aC pt 128 f_26] := by rw [e_f_26]; exact ⟨hP, hD⟩
              have hP := hpd9.1
              have hD := hpd9.2
              clear hpd9
              have hb2 : ∀ z, z < 2 ^ t + (x + 1) → f_18 z = nI (cst up z) ∧ f_26 z = nI (ow + fw + cst uw z) := fun z hz => by
                rw [e_f_18, e_f_26, nI_clamp (by omega)]
                by_cases e : z = 2 ^ t + x
                · rw [e, pk_us, pk_us]; exact ⟨rfl, rfl⟩
                · rw [pk_un e, pk_un e]; exact hd z (by omega)
              obtain ⟨x_27, e_27⟩ : ∃ y : Int32, y = (nI x) + 1 := ⟨_, rfl⟩
              refine lv_iinc (v := x_27) (lv' := [(4, Value.int x_27), (0, Value.ref h1), (1, Value.int (nI ow)), (2, Value.int (nI t)), (3, Value.int (nI (2 ^ t)))]) hx hb dX9_listSets_88 hl (k := 4) rfl (by rw [e_27]; rfl) (by decide) rfl (fun ls hl => ?_)
              have h9 : x_27 = nI (x + 1) := by rw [e_27, nI_1]
              subst h9
              refine lv_goto (tgt := 36) hx hb dX9_listSets_91 (by decide) ?_
              exact ih_36 (x + 1) f_18 f_26 (by omega) (by omega) (hb2) _ _ _ (hP.sub [0, 1, 2, 3, 4] rfl) (hD.sub [0, 1, 2, 3, 4] (by decide) rfl) hS (lv_sub hl [1, 2, 3, 4, 0] rfl)
        exact lp_36 ((2 ^ t - 0) + 1) 0 qc tc (Nat.lt_succ_self _) (Nat.zero_le _) (hs) _ _ _ (hP.sub [0, 1, 2, 3, 4] rfl) (hD.sub [0, 1, 2, 3, 4] (by decide) rfl) hS (lv_sub hl [2, 3, 4, 1, 0] rfl)
  exact lp_21 ((k - 0) + 1) 0 f_2 f_5 (Nat.lt_succ_self _) (Nat.zero_le k) (hs0) _ _ _ (hP.sub [0, 1, 2, 3, 4] rfl) (hD.sub [0, 1, 2, 3, 4] (by decide) rfl) hS (lv_sub hl [1, 2, 0] rfl)

end

section
/-! 38.plans6 -/
theorem cst_le {f : Nat → Nat} {k s b : Nat} (hs : s < 2 ^ k) (h : ∀ u, u < k → f u ≤ b) : cst f s ≤ b * 7 := by
  unfold cst
  refine sumr_le (fun j _ _ => ?_)
  by_cases hj : j < k
  · have := h j hj
    split <;> omega
  · have : s.testBit j = false := Nat.testBit_lt_two_pow (Nat.lt_of_lt_of_le hs (Nat.pow_le_pow_right (by omega) (by omega)))
    rw [this]
    simp
/-- the best of the sets below x: the cheapest, of several the highest -/
def BST (EN : Nat → Prop) (ct : Nat → Nat) (x : Nat) (bl : Int32) : Prop := (bl = -9 ∧ ∀ z, z < x → ¬ EN z) ∨ ∃ b, b < x ∧ bl = nI b ∧ EN b ∧ ∀ z, z < x → EN z → ct b < ct z ∨ (ct b = ct z ∧ z ≤ b)
theorem BST_0 {EN : Nat → Prop} {ct : Nat → Nat} : BST EN ct 0 (-9) := Or.inl ⟨rfl, fun z h => absurd h (Nat.not_lt_zero z)⟩
theorem BST_no {EN : Nat → Prop} {ct : Nat → Nat} {x : Nat} {bl : Int32} (h : BST EN ct x bl) (hx : ¬ EN x) : BST EN ct (x + 1) bl := by
  rcases h with ⟨h1, h2⟩ | ⟨b, h1, h2, h3, h4⟩
  · refine Or.inl ⟨h1, fun z hz => ?_⟩
    by_cases e : z = x
    · rw [e]; exact hx
    · exact h2 z (by omega)
  · refine Or.inr ⟨b, by omega, h2, h3, fun z hz hE => ?_⟩
    by_cases e : z = x
    · rw [e] at hE; exact absurd hE hx
    · exact h4 z (by omega) hE
theorem BST_dear {EN : Nat → Prop} {ct : Nat → Nat} {x b : Nat} {bl : Int32} (h1 : b < x) (h2 : bl = nI b) (h3 : EN b) (h4 : ∀ z, z < x → EN z → ct b < ct z ∨ (ct b = ct z ∧ z ≤ b)) (hx : ct b < ct x) : BST EN ct (x + 1) bl := by
  refine Or.inr ⟨b, by omega, h2, h3, fun z hz hE => ?_⟩
  by_cases e : z = x
  · rw [e]; exact Or.inl hx
  · exact h4 z (by omega) hE
theorem BST_first {EN : Nat → Prop} {ct : Nat → Nat} {x : Nat} (h : ∀ z, z < x → ¬ EN z) (hx : EN x) : BST EN ct (x + 1) (nI x) := by
  refine Or.inr ⟨x, by omega, rfl, hx, fun z hz hE => ?_⟩
  by_cases e : z = x
  · rw [e]; exact Or.inr ⟨rfl, Nat.le_refl x⟩
  · exact absurd hE (h z (by omega))
theorem BST_take {EN : Nat → Prop} {ct : Nat → Nat} {x b : Nat} (h1 : b < x) (h4 : ∀ z, z < x → EN z → ct b < ct z ∨ (ct b = ct z ∧ z ≤ b)) (hx : EN x) (hc : ct x ≤ ct b) : BST EN ct (x + 1) (nI x) := by
  refine Or.inr ⟨x, by omega, rfl, hx, fun z hz hE => ?_⟩
  by_cases e : z = x
  · rw [e]; exact Or.inr ⟨rfl, Nat.le_refl x⟩
  · rcases h4 z (by omega) hE with h | ⟨h, h'⟩
    · exact Or.inl (by omega)
    · rcases Nat.lt_or_ge (ct x) (ct z) with q | q
      · exact Or.inl q
      · exact Or.inr ⟨by omega, by omega⟩

set_option maxHeartbeats 1000000 in
set_option maxRecDepth 100000 in
/-- X9_cheapestSet -/
theorem c_X9_cheapestSet (l : Launch) (dC : Nat → ClassId) (dI : Nat → Nat → Nat) (aC : Nat → ClassId) (sz : Nat) (h1 : Nat) (po : Nat) (pp : Nat) (ps : Nat) (pa : Nat) (pe : Nat) (pb : Nat) (pv : Nat) (pk : Nat) (pu : Nat) (pw : Nat) (pq : Nat) (pt : Nat) (ek : Nat) (ef : Nat) (ew : Nat) (ep : Nat) (es : Nat) (n : Nat) (sy : Int32) (dn : Int32) (wf : Nat → Int32) (stf : Nat → Int32) (W0 : Nat → Nat) (i : Nat) (k : Nat) (fw : Nat) (up : Nat → Nat) (uw : Nat → Nat) (uf : Nat → Int32) (vf : Nat → Int32) (qf : Nat → Int32) (tf : Nat → Int32) (hw : n ≤ 8 ∧ ∀ j, j < n → wf j = nI (W0 j) ∧ W0 j ≤ 9) (hi : i < n) (hk : k ≤ 7) (hfw : fw ≤ 100) (hu : ∀ u, u < k → (uf u = nI (up u) ∧ vf u = nI (uw u)) ∧ uw u ≤ 9 ∧ up u ≤ 200) : Met l yX9_cheapestSet (wW yX9_cheapestSet cX9_cheapestSet 7 (some .int)) ({ frames := 2, cells := 0, slots := 0, locals := 36 } : Room) (va_Pc [Value.ref h1, Value.int (nI i)] (fun U => U.heap.size = sz ∧ va_P (dC, dI) classes [oX9 h1 po pp ps pa pe pb pv pk pu pw pq pt (nI k) (nI fw), oX4 pv ek ef ew ep es (nI n) sy dn, cI aC ew 8 wf, cI aC es 5 stf, cI aC pu 7 uf, cI aC pw 7 vf, cI aC pq 128 qf, cI aC pt 128 tf] U.heap ∧ va_K (dC, dI) classes (TY aC) U ∧ va_D (fun _ => True) [oX9 h1 po pp ps pa pe pb pv pk pu pw pq pt (nI k) (nI fw), oX4 pv ek ef ew ep es (nI n) sy dn, cI aC ew 8 wf, cI aC es 5 stf, cI aC pu 7 uf, cI aC pw 7 vf, cI aC pq 128 qf, cI aC pt 128 tf] ∧ NX U)) (va_Qi (fun (r : Int32) (u : (Nat → Int32) × (Nat → Int32)) => match u with | (qg, tg) => BST (fun z => nd (stf 1) (sumr W0 i (n - i)) ≤ W0 i + fw + cst uw z) (cst up) (2 ^ k) r ∧ ∀ x, x < 2 ^ k → qg x = nI (cst up x)) (fun (u : (Nat → Int32) × (Nat → Int32)) (t : State) => match u with | (qg, tg) => va_P (dC, dI) classes [oX9 h1 po pp ps pa pe pb pv pk pu pw pq pt (nI k) (nI fw), oX4 pv ek ef ew ep es (nI n) sy dn, cI aC ew 8 wf, cI aC es 5 stf, cI aC pu 7 uf, cI aC pw 7 vf, cI aC pq 128 qg, cI aC pt 128 tg] t.heap ∧ va_K (dC, dI) classes (TY aC) t ∧ va_D (va_A [oX9 h1 po pp ps pa pe pb pv pk pu pw pq pt (nI k) (nI fw), oX4 pv ek ef ew ep es (nI n) sy dn, cI aC ew 8 wf, cI aC es 5 stf, cI aC pu 7 uf, cI aC pw 7 vf, cI aC pq 128 qf, cI aC pt 128 tf] sz) [oX9 h1 po pp ps pa pe pb pv pk pu pw pq pt (nI k) (nI fw), oX4 pv ek ef ew ep es (nI n) sy dn, cI aC ew 8 wf, cI aC es 5 stf, cI aC pu 7 uf, cI aC pw 7 vf, cI aC pq 128 qg, cI aC pt 128 tg]) (va_A [oX9 h1 po pp ps pa pe pb pv pk pu pw pq pt (nI k) (nI fw), oX4 pv ek ef ew ep es (nI n) sy dn, cI aC ew 8 wf, cI aC es 5 stf, cI aC pu 7 uf, cI aC pw 7 vf, cI aC pq 128 qf, cI aC pt 128 tf] sz)) 0 0 (va_A [oX9 h1 po pp ps pa pe pb pv pk pu pw pq pt (nI k) (nI fw), oX4 pv ek ef ew ep es (nI n) sy dn, cI aC ew 8 wf, cI aC es 5 stf, cI aC pu 7 uf, cI aC pw 7 vf, cI aC pq 128 qf, cI aC pt 128 tf] sz) := by
  refine Met.ofW (cc := cX9_cheapestSet) (maxL := 7) (ret := (some .int)) (by decide) rfl ?_
  intro p e s m args below meth c s₁ B hml hv
  obtain ⟨rfl, hsz, hP, hK, hD0, hN⟩ := hv
  have hx := B.exec
  have hb := B.bytes
  have hr := B.returns
  have hts0 := atoms_spec (ws := (wW yX9_cheapestSet cX9_cheapestSet 7 (some .int))) B.pre
  have hts : ∀ w9 ∈ lw_G, w9.before ([Value.ref h1, Value.int (nI i)] : List Value).toArray s = true := fun w9 h9 => hts0 w9 (List.mem_cons_of_mem _ h9)
  have hown : s.vm.findClass RX9 = some m.cls := findClass_of_methodNamed (x := yX9_cheapestSet) B.named
  have hlocks := B.notSynchronized
  subst hsz
  have hD := hD0.self (sz := s.heap.size)
  generalize hAe : va_A [oX9 h1 po pp ps pa pe pb pv pk pu pw pq pt (nI k) (nI fw), oX4 pv ek ef ew ep es (nI n) sy dn, cI aC ew 8 wf, cI aC es 5 stf, cI aC pu 7 uf, cI aC pw 7 vf, cI aC pq 128 qf, cI aC pt 128 tf] s.heap.size = A at hD ⊢
  have hA : ∀ q : Nat, s.heap.size ≤ q → A q := fun q h => by rw [← hAe]; exact Or.inr h
  obtain ⟨H, hHe⟩ : ∃ H : Heap, H = s.heap := ⟨_, rfl⟩
  have hS : va_S A s.heap H [] := by rw [hHe]; exact va_S.rf
  have hP : va_P (dC, dI) classes [oX9 h1 po pp ps pa pe pb pv pk pu pw pq pt (nI k) (nI fw), oX4 pv ek ef ew ep es (nI n) sy dn, cI aC ew 8 wf, cI aC es 5 stf, cI aC pu 7 uf, cI aC pw 7 vf, cI aC pq 128 qf, cI aC pt 128 tf] H := by rw [hHe]; exact hP
  have hl := lv_entry ([Value.ref h1, Value.int (nI i)]) (n := 7) (Nat.le_of_ble_eq_true rfl)
  rw [lg_entry_eq]
  generalize (lg_sl ([Value.ref h1, Value.int (nI i)]) ++ List.replicate (7 - (lg_sl ([Value.ref h1, Value.int (nI i)])).length) Slot.unset).toArray = ls at hl ⊢
  have hl : lv_has ls 7 [(0, Value.ref h1), (1, Value.int (nI i))] := hl
  rw [← hHe]
  have hn8 := hw.1
  have hp7 := p2_le hk
  have hW9 := (hw.2 i hi).2
  have hs9 := w_le (W := W0) (a := i) (k := n - i) (fun j q => (hw.2 j q).2) (by omega) hw.1
  refine lv_aload_n hx hb dX9_cheapestSet_0 rfl (lv_at hl 0 rfl) ?_
  refine lv_aload_n hx hb dX9_cheapestSet_1 rfl (lv_at hl 0 rfl) ?_
  refine va_get (D := (dC, dI)) (ci := 9) (v := Value.ref pv) (C := RX9) (T := TX9) (N := 14) hx hb hts inX9 hown hK hP 0 rfl rfl 6 (by decide) (hts _ (gw kw_162 rfl)) (fun _ h9 => h9) rfl dX9_cheapestSet_2 ?_
  refine va_get (D := (dC, dI)) (ci := 4) (v := Value.ref ew) (C := RX4) (T := TX4) (N := 8) hx hb hts inX4 hown hK hP 1 rfl rfl 2 (by decide) (hts _ (gw kw_40 rfl)) (fun _ h9 => h9) rfl dX9_cheapestSet_5 ?_
  refine lv_iload_n hx hb dX9_cheapestSet_8 rfl (lv_at hl 1 rfl) ?_
  have h_1 : vp_in (nI i) 8 := by first | exact vp_in_nI (by omega) (by omega) | (unfold vp_in; decide) | (subst_vars; first | (unfold vp_in; decide) | exact vp_in_nI (by omega) (by omega))
  refine va_iald hx hb hK hP 2 0 rfl rfl h_1 dX9_cheapestSet_9 ?_
  refine lv_topi (fun x_2 e_2 => ?_)
  have h9 : x_2 = nI (W0 i) := by rw [e_2, nI_clamp (by omega)]; exact (hw.2 i hi).1
  subst h9
  have hpd9 := pdf_N (cx := [oX9 h1 po pp ps pa pe pb pv pk pu pw pq pt (nI k) (nI fw), cI aC pu 7 uf, cI aC pw 7 vf, cI aC pq 128 qf, cI aC pt 128 tf]) hP hD hS hA [0, 4, 5, 6, 7] (by decide) rfl
  have hPc := hpd9.1
  have hDc := hpd9.2.1
  have hFc := hpd9.2.2
  clear hpd9
  refine va_calli (va_runV (As := [Value.int (nI (W0 i))]) (rest := []) ⟨hx, hb, hml, hown, hts⟩ (c_X9_listSets l dC dI aC H.size h1 po pp ps pa pe pb pv pk pu pw pq pt k fw (W0 i) up uw uf vf qf tf (hk) (fun u q => (hu u q).1)) ⟨(callB_of 1 hts (gG kw_461) rfl rfl rfl (hts _ (gw kw_11 rfl)) (hts _ (gw kw_458 rfl)) hd_X9_listSets ⟨Nat.le_of_ble_eq_true rfl, Nat.le_of_ble_eq_true rfl⟩), (hts _ (gw kw_460 rfl)), (hts _ (gw ks_15 rfl))⟩ ⟨fb_std, va_recv (q := (RX9, TX9, 14)) hK hPc (ci := 9) (q0 := 0) rfl rfl, pre_std hPc hK hDc hN⟩ rfl rfl hl.1 rfl (lv_room (Nat.le_of_ble_eq_true rfl)) dX9_cheapestSet_10 ⟨Nat.le_of_ble_eq_true rfl, Nat.le_of_ble_eq_true rfl⟩) hS (fun q _ h => hFc q h) hFc (fun x_3 u9 t9 H1 locs ht hvm hw_3 hB hz1 hk1 hS => ?_)
  obtain ⟨u_4, u_5⟩ := u9
  obtain ⟨hP1, hK1, hD1⟩ := hB
  rw [ht] at hP1
  clear hK1
  try dsimp only at hw_3
  have hpd9 : PDx (dC, dI) classes A H1 [oX4 pv ek ef ew ep es (nI n) sy dn, cI aC ew 8 wf, cI aC es 5 stf, oX9 h1 po pp ps pa pe pb pv pk pu pw pq pt (nI k) (nI fw), cI aC pu 7 uf, cI aC pw 7 vf, cI aC pq 128 u_4, cI aC pt 128 u_5] := jn_N (wr := [oX4 pv ek ef ew ep es (nI n) sy dn, cI aC ew 8 wf, cI aC es 5 stf]) hFc hk1 hP1 hD1 hP hD [0, 4, 5, 6, 7] [1, 2, 3] rfl rfl (by decide) (by decide)
  have hP := hpd9.1
  have hD := hpd9.2
  clear hpd9
  generalize H1 = H at hP hS ⊢
  clear hPc hDc hFc hz1 hk1 hP1 hD1 ht hvm
  obtain ⟨hl0, hl1⟩ := hw_3
  have h9 : x_3 = nI (2 ^ k) := hl0
  subst h9
  refine lv_istore_n (lv' := [(2, Value.int (nI (2 ^ k))), (0, Value.ref h1), (1, Value.int (nI i))]) hx hb dX9_cheapestSet_13 rfl hl (by decide) rfl (fun ls hl => ?_)
  refine lv_aload_n hx hb dX9_cheapestSet_14 rfl (lv_at hl 1 rfl) ?_
  refine va_get (D := (dC, dI)) (ci := 9) (v := Value.ref pv) (C := RX9) (T := TX9) (N := 14) hx hb hts inX9 hown hK hP 3 rfl rfl 6 (by decide) (hts _ (gw kw_162 rfl)) (fun _ h9 => h9) rfl dX9_cheapestSet_15 ?_
  refine lv_iload_n hx hb dX9_cheapestSet_18 rfl (lv_at hl 2 rfl) ?_
  have hpd9 := pdf_N (cx := [oX4 pv ek ef ew ep es (nI n) sy dn, cI aC ew 8 wf]) hP hD hS hA [0, 1] (by decide) rfl
  have hPc := hpd9.1
  have hDc := hpd9.2.1
  have hFc := hpd9.2.2
  clear hpd9
  refine va_calli (va_runV (As := [Value.int (nI i)]) (rest := []) ⟨hx, hb, hml, hown, hts⟩ (c_X4_weightFrom l dC dI aC H.size pv ek ef ew ep es n sy dn wf W0 i (hw) (by omega)) ⟨(callB_of 1 hts (gG kw_465) rfl rfl rfl (hts _ (gw kw_2 rfl)) (hts _ (gw kw_462 rfl)) hd_X4_weightFrom ⟨Nat.le_of_ble_eq_true rfl, Nat.le_of_ble_eq_true rfl⟩), (hts _ (gw kw_463 rfl)), (hts _ (gw kw_464 rfl))⟩ ⟨fb_std, va_recv (q := (RX4, TX4, 8)) hK hPc (ci := 4) (q0 := 0) rfl rfl, pre_std hPc hK hDc hN⟩ rfl rfl hl.1 rfl (lv_room (Nat.le_of_ble_eq_true rfl)) dX9_cheapestSet_19 ⟨Nat.le_of_ble_eq_true rfl, Nat.le_of_ble_eq_true rfl⟩) hS (fun q _ h => hFc q h) hFc (fun x_6 u9 t9 H1 locs ht hvm hw_6 hB hz1 hk1 hS => ?_)
  obtain ⟨hP1, hK1, hD1⟩ := hB
  rw [ht] at hP1
  clear hK1
  try dsimp only at hw_6
  have hpd9 : PDx (dC, dI) classes A H1 [cI aC es 5 stf, oX9 h1 po pp ps pa pe pb pv pk pu pw pq pt (nI k) (nI fw), cI aC pu 7 uf, cI aC pw 7 vf, cI aC pq 128 u_4, cI aC pt 128 u_5, oX4 pv ek ef ew ep es (nI n) sy dn, cI aC ew 8 wf] := jn_N (wr := [cI aC es 5 stf, oX9 h1 po pp ps pa pe pb pv pk pu pw pq pt (nI k) (nI fw), cI aC pu 7 uf, cI aC pw 7 vf, cI aC pq 128 u_4, cI aC pt 128 u_5]) hFc hk1 hP1 hD1 hP hD [0, 1] [2, 3, 4, 5, 6, 7] rfl rfl (by decide) (by decide)
  have hP := hpd9.1
  have hD := hpd9.2
  clear hpd9
  generalize H1 = H at hP hS ⊢
  clear hPc hDc hFc hz1 hk1 hP1 hD1 ht hvm
  have h9 : x_6 = nI (sumr W0 i (n - i)) := hw_6
  subst h9
  refine lv_istore_n (lv' := [(3, Value.int (nI (sumr W0 i (n - i)))), (2, Value.int (nI (2 ^ k))), (0, Value.ref h1), (1, Value.int (nI i))]) hx hb dX9_cheapestSet_22 rfl hl (by decide) rfl (fun ls hl => ?_)
  refine lv_bipush (v := -9) hx hb dX9_cheapestSet_23 (by decide) ?_
  refine lv_istore (lv' := [(4, Value.int (-9)), (3, Value.int (nI (sumr W0 i (n - i)))), (2, Value.int (nI (2 ^ k))), (0, Value.ref h1), (1, Value.int (nI i))]) hx hb dX9_cheapestSet_25 hl (by decide) rfl (fun ls hl => ?_)
  refine lv_iconst (v := 0) hx hb dX9_cheapestSet_27 (by decide) ?_
  refine lv_istore (lv' := [(5, Value.int 0), (4, Value.int (-9)), (3, Value.int (nI (sumr W0 i (n - i)))), (2, Value.int (nI (2 ^ k))), (0, Value.ref h1), (1, Value.int (nI i))]) hx hb dX9_cheapestSet_28 hl (by decide) rfl (fun ls hl => ?_)
  have lp_30 : ∀ (fu : Nat) (x : Nat) (bl : Int32) (hfu : 2 ^ k - x < fu) (hxx : x ≤ 2 ^ k) (hbl : BST (fun z => nd (stf 1) (sumr W0 i (n - i)) ≤ W0 i + fw + cst uw z) (cst up) x bl) (H : Heap) (locs : List Loc) (ls : Array Slot), va_P (dC, dI) classes [cI aC es 5 stf, oX9 h1 po pp ps pa pe pb pv pk pu pw pq pt (nI k) (nI fw), cI aC pu 7 uf, cI aC pw 7 vf, cI aC pq 128 u_4, cI aC pt 128 u_5, oX4 pv ek ef ew ep es (nI n) sy dn, cI aC ew 8 wf] H → va_D A [cI aC es 5 stf, oX9 h1 po pp ps pa pe pb pv pk pu pw pq pt (nI k) (nI fw), cI aC pu 7 uf, cI aC pw 7 vf, cI aC pq 128 u_4, cI aC pt 128 u_5, oX4 pv ek ef ew ep es (nI n) sy dn, cI aC ew 8 wf] → va_S A s.heap H locs → lv_has ls 7 [(0, Value.ref h1), (1, Value.int (nI i)), (2, Value.int (nI (2 ^ k))), (3, Value.int (nI (sumr W0 i (n - i)))), (4, Value.int bl), (5, Value.int (nI x))] → W p l e (headSpec (wW yX9_cheapestSet cX9_cheapestSet 7 (some .int)) ({ frames := 2, cells := 0, slots := 0, locals := 36 } : Room)).room s m ([Value.ref h1, Value.int (nI i)] : List Value).toArray below meth c H locs 0 0 (MQ below (va_Qi (fun (r : Int32) (u : (Nat → Int32) × (Nat → Int32)) => match u with | (qg, tg) => BST (fun z => nd (stf 1) (sumr W0 i (n - i)) ≤ W0 i + fw + cst uw z) (cst up) (2 ^ k) r ∧ ∀ x, x < 2 ^ k → qg x = nI (cst up x)) (fun (u : (Nat → Int32) × (Nat → Int32)) (t : State) => match u with | (qg, tg) => va_P (dC, dI) classes [oX9 h1 po pp ps pa pe pb pv pk pu pw pq pt (nI k) (nI fw), oX4 pv ek ef ew ep es (nI n) sy dn, cI aC ew 8 wf, cI aC es 5 stf, cI aC pu 7 uf, cI aC pw 7 vf, cI aC pq 128 qg, cI aC pt 128 tg] t.heap ∧ va_K (dC, dI) classes (TY aC) t ∧ va_D A [oX9 h1 po pp ps pa pe pb pv pk pu pw pq pt (nI k) (nI fw), oX4 pv ek ef ew ep es (nI n) sy dn, cI aC ew 8 wf, cI aC es 5 stf, cI aC pu 7 uf, cI aC pw 7 vf, cI aC pq 128 qg, cI aC pt 128 tg]) A) ([Value.ref h1, Value.int (nI i)] : List Value).toArray s 0 0 A) (F0 m 30 ls []) := by
    intro fu
    induction fu with
    | zero => intro x bl hfu; exact absurd hfu (Nat.not_lt_zero _)
    | succ fu ih_30 =>
      intro x bl hfu hxx hbl H locs ls hP hD hS hl
      refine lv_iload hx hb dX9_cheapestSet_30 (lv_at hl 5 rfl) ?_
      refine lv_iload_n hx hb dX9_cheapestSet_32 rfl (lv_at hl 2 rfl) ?_
      refine lv_icmp_ge (tgt := 103) hx hb dX9_cheapestSet_33 (by decide) (fun c_7 => ?_) (fun c_7 => ?_)
      · have hxe : x = 2 ^ k := by
          rcases Nat.lt_or_ge x (2 ^ k) with q | q
          · exact absurd c_7 (nI_ge q (by omega))
          · omega
        refine lv_iload hx hb dX9_cheapestSet_103 (lv_at hl 4 rfl) ?_
        have hpd9 := pd_N (cx := [oX9 h1 po pp ps pa pe pb pv pk pu pw pq pt (nI k) (nI fw), oX4 pv ek ef ew ep es (nI n) sy dn, cI aC ew 8 wf, cI aC es 5 stf, cI aC pu 7 uf, cI aC pw 7 vf, cI aC pq 128 u_4, cI aC pt 128 u_5]) hP hD [1, 6, 7, 0, 2, 3, 4, 5] (by decide) rfl
        have hP9 := hpd9.1
        have hD9 := hpd9.2
        refine W.widen (k := 0) (n := 0) (by omega) (by omega) ?_
        exact W.iret (v := bl) hx hb hr (fun t ht hW => ⟨⟨bl, (u_4, u_5), rfl, ⟨by rw [← hxe]; exact hbl, fun x hx => (hl1 x hx).1⟩, by rw [ht]; exact hP9, va_K.moved hW.alike hK, hD9⟩, hS.F ht⟩) hS.2.2 dX9_cheapestSet_105
      · have hlx : x < 2 ^ k := by
          rcases Nat.lt_or_ge x (2 ^ k) with q | q
          · exact q
          · exact absurd (nI_le q (by omega)) c_7
        obtain ⟨hd1, hd2⟩ := hl1 x hlx
        have hcu := cst_le (f := uw) (k := k) (s := x) (b := 9) hlx (fun u q => (hu u q).2.1)
        refine lv_iload hx hb dX9_cheapestSet_36 (lv_at hl 4 rfl) ?_
        refine lv_if_lt (tgt := 58) hx hb dX9_cheapestSet_38 (by decide) (fun c_8 => ?_) (fun c_8 => ?_)
        · have hb0 := hbl.resolve_right (fun ⟨b, q1, q2, _⟩ => absurd c_8 (by rw [q2]; exact nI_pos (by omega)))
          refine lv_iconst (v := 1) hx hb dX9_cheapestSet_58 (by decide) ?_
          refine lv_goto (tgt := 63) hx hb dX9_cheapestSet_59 (by decide) ?_
          refine lv_istore (lv' := [(6, Value.int 1), (0, Value.ref h1), (1, Value.int (nI i)), (2, Value.int (nI (2 ^ k))), (3, Value.int (nI (sumr W0 i (n - i)))), (4, Value.int bl), (5, Value.int (nI x))]) hx hb dX9_cheapestSet_63 hl (by decide) rfl (fun ls hl => ?_)
          refine lv_iload hx hb dX9_cheapestSet_65 (lv_at hl 0 rfl) ?_
          refine lv_if_eq (tgt := 97) hx hb dX9_cheapestSet_67 (by decide) (fun c_9 => ?_) (fun c_9 => ?_)
          · exact absurd c_9 (by decide)
          · refine lv_aload_n hx hb dX9_cheapestSet_70 rfl (lv_at hl 1 rfl) ?_
            refine va_get (D := (dC, dI)) (ci := 9) (v := Value.ref pv) (C := RX9) (T := TX9) (N := 14) hx hb hts inX9 hown hK hP 1 rfl rfl 6 (by decide) (hts _ (gw kw_162 rfl)) (fun _ h9 => h9) rfl dX9_cheapestSet_71 ?_
            refine va_get (D := (dC, dI)) (ci := 4) (v := Value.ref es) (C := RX4) (T := TX4) (N := 8) hx hb hts inX4 hown hK hP 6 rfl rfl 4 (by decide) (hts _ (gw kw_44 rfl)) (fun _ h9 => h9) rfl dX9_cheapestSet_74 ?_
            refine lv_iconst (v := 1) hx hb dX9_cheapestSet_77 (by decide) ?_
            have h_10 : vp_in 1 5 := by unfold vp_in; decide
            refine va_iald hx hb hK hP 0 0 rfl rfl h_10 dX9_cheapestSet_78 ?_
            refine lv_topi (fun x_11 e_11 => ?_)
            have h9 : x_11 = (stf 1) := by rw [e_11]; rfl
            subst h9
            refine lv_aload_n hx hb dX9_cheapestSet_79 rfl (lv_at hl 1 rfl) ?_
            refine va_get (D := (dC, dI)) (ci := 9) (v := Value.ref pt) (C := RX9) (T := TX9) (N := 14) hx hb hts inX9 hown hK hP 1 rfl rfl 11 (by decide) (hts _ (gw kw_168 rfl)) (fun _ h9 => h9) rfl dX9_cheapestSet_80 ?_
            refine lv_iload hx hb dX9_cheapestSet_83 (lv_at hl 6 rfl) ?_
            have h_12 : vp_in (nI x) 128 := by first | exact vp_in_nI (by omega) (by omega) | (unfold vp_in; decide) | (subst_vars; first | (unfold vp_in; decide) | exact vp_in_nI (by omega) (by omega))
            refine va_iald hx hb hK hP 5 0 rfl rfl h_12 dX9_cheapestSet_85 ?_
            refine lv_topi (fun x_13 e_13 => ?_)
            have h9 : x_13 = nI (W0 i + fw + cst uw x) := by rw [e_13, nI_clamp (by omega)]; exact hd2
            subst h9
            refine lv_iload_n hx hb dX9_cheapestSet_86 rfl (lv_at hl 4 rfl) ?_
            have hpd9 := pdf_N (cx := []) hP hD hS hA [] (by decide) rfl
            have hPc := hpd9.1
            have hDc := hpd9.2.1
            have hFc := hpd9.2.2
            clear hpd9
            refine va_calli (va_runSN (As := [Value.int (stf 1), Value.int (nI (W0 i + fw + cst uw x)), Value.int (nI (sumr W0 i (n - i)))]) (rest := []) ⟨hx, hb, hml, hown, hts⟩ (c_X11_isEnough l dC dI aC H.size (stf 1) (W0 i + fw + cst uw x) (sumr W0 i (n - i)) (by omega) (by omega)) ⟨(va_cnB 3 hts (gG kw_469) rfl rfl rfl (hN.1 _ kw_467 rfl) (hts _ (gw kw_1 rfl)) hd_X11_isEnough ⟨Nat.le_of_ble_eq_true rfl, Nat.le_of_ble_eq_true rfl⟩), (hts _ (gw kw_468 rfl)), trivial⟩ ⟨fb_std, pre_std hPc hK hDc hN⟩ rfl rfl hl.1 rfl (lv_room (Nat.le_of_ble_eq_true rfl)) dX9_cheapestSet_87 ⟨Nat.le_of_ble_eq_true rfl, Nat.le_of_ble_eq_true rfl⟩) hS (fun q _ h => hFc q h) hFc (fun x_14 u9 t9 H1 locs ht hvm hw_14 hB hz1 hk1 hS => ?_)
            obtain ⟨hP1, hK1, hD1⟩ := hB
            rw [ht] at hP1
            clear hK1
            try dsimp only at hw_14
            have hpd9 : PDx (dC, dI) classes A H1 [cI aC es 5 stf, oX9 h1 po pp ps pa pe pb pv pk pu pw pq pt (nI k) (nI fw), cI aC pu 7 uf, cI aC pw 7 vf, cI aC pq 128 u_4, cI aC pt 128 u_5, oX4 pv ek ef ew ep es (nI n) sy dn, cI aC ew 8 wf] := jn_N (wr := [cI aC es 5 stf, oX9 h1 po pp ps pa pe pb pv pk pu pw pq pt (nI k) (nI fw), cI aC pu 7 uf, cI aC pw 7 vf, cI aC pq 128 u_4, cI aC pt 128 u_5, oX4 pv ek ef ew ep es (nI n) sy dn, cI aC ew 8 wf]) hFc hk1 hP1 hD1 hP hD [] [0, 1, 2, 3, 4, 5, 6, 7] rfl rfl (by decide) (by decide)
            have hP := hpd9.1
            have hD := hpd9.2
            clear hpd9
            generalize H1 = H at hP hS ⊢
            clear hPc hDc hFc hz1 hk1 hP1 hD1 ht hvm
            have hz_87 := hw_14
            refine lv_if_eq (tgt := 97) hx hb dX9_cheapestSet_90 (by decide) (fun c_15 => ?_) (fun c_15 => ?_)
            · have hEx : ¬ (fun z => nd (stf 1) (sumr W0 i (n - i)) ≤ W0 i + fw + cst uw z) x := fun q => absurd (hz_87.symm.trans c_15) (by rw [if_pos q]; decide)
              have hbn := BST_no (ct := cst up) (Or.inl hb0) hEx
              obtain ⟨x_16, e_16⟩ : ∃ y : Int32, y = (nI x) + 1 := ⟨_, rfl⟩
              refine lv_iinc (v := x_16) (lv' := [(5, Value.int x_16), (6, Value.int 1), (0, Value.ref h1), (1, Value.int (nI i)), (2, Value.int (nI (2 ^ k))), (3, Value.int (nI (sumr W0 i (n - i)))), (4, Value.int bl)]) hx hb dX9_cheapestSet_97 hl (k := 6) rfl (by rw [e_16]; rfl) (by decide) rfl (fun ls hl => ?_)
              have h9 : x_16 = nI (x + 1) := by rw [e_16, nI_1]
              subst h9
              refine lv_goto (tgt := 30) hx hb dX9_cheapestSet_100 (by decide) ?_
              exact ih_30 (x + 1) bl (by omega) (by omega) (hbn) _ _ _ (hP.sub [0, 1, 2, 3, 4, 5, 6, 7] rfl) (hD.sub [0, 1, 2, 3, 4, 5, 6, 7] (by decide) rfl) hS (lv_sub hl [2, 3, 4, 5, 6, 0] rfl)
            · refine lv_iload hx hb dX9_cheapestSet_93 (lv_at hl 6 rfl) ?_
              refine lv_istore (lv' := [(4, Value.int (nI x)), (6, Value.int 1), (0, Value.ref h1), (1, Value.int (nI i)), (2, Value.int (nI (2 ^ k))), (3, Value.int (nI (sumr W0 i (n - i)))), (5, Value.int (nI x))]) hx hb dX9_cheapestSet_95 hl (by decide) rfl (fun ls hl => ?_)
              have hEx : (fun z => nd (stf 1) (sumr W0 i (n - i)) ≤ W0 i + fw + cst uw z) x := by
                by_cases q : nd (stf 1) (sumr W0 i (n - i)) ≤ W0 i + fw + cst uw x
                · exact q
                · exact absurd (by rw [hz_87, if_neg q]) c_15
              have hbn := BST_first (ct := cst up) hb0.2 hEx
              obtain ⟨x_17, e_17⟩ : ∃ y : Int32, y = (nI x) + 1 := ⟨_, rfl⟩
              refine lv_iinc (v := x_17) (lv' := [(5, Value.int x_17), (4, Value.int (nI x)), (6, Value.int 1), (0, Value.ref h1), (1, Value.int (nI i)), (2, Value.int (nI (2 ^ k))), (3, Value.int (nI (sumr W0 i (n - i))))]) hx hb dX9_cheapestSet_97 hl (k := 6) rfl (by rw [e_17]; rfl) (by decide) rfl (fun ls hl => ?_)
              have h9 : x_17 = nI (x + 1) := by rw [e_17, nI_1]
              subst h9
              refine lv_goto (tgt := 30) hx hb dX9_cheapestSet_100 (by decide) ?_
              exact ih_30 (x + 1) (nI x) (by omega) (by omega) (hbn) _ _ _ (hP.sub [0, 1, 2, 3, 4, 5, 6, 7] rfl) (hD.sub [0, 1, 2, 3, 4, 5, 6, 7] (by decide) rfl) hS (lv_sub hl [3, 4, 5, 6, 1, 0] rfl)
        · obtain ⟨b, hb1, hb2, hb3, hb4⟩ := hbl.resolve_left (fun h => c_8 (by rw [h.1]; decide))
          have h9 : bl = nI b := hb2
          subst h9
          have hcb := cst_le (f := up) (k := k) (s := b) (b := 200) (by omega) (fun u q => (hu u q).2.2)
          have hcx9 := cst_le (f := up) (k := k) (s := x) (b := 200) (by omega) (fun u q => (hu u q).2.2)
          refine lv_aload_n hx hb dX9_cheapestSet_41 rfl (lv_at hl 0 rfl) ?_
          refine va_get (D := (dC, dI)) (ci := 9) (v := Value.ref pq) (C := RX9) (T := TX9) (N := 14) hx hb hts inX9 hown hK hP 1 rfl rfl 10 (by decide) (hts _ (gw kw_167 rfl)) (fun _ h9 => h9) rfl dX9_cheapestSet_42 ?_
          refine lv_iload hx hb dX9_cheapestSet_45 (lv_at hl 5 rfl) ?_
          have h_18 : vp_in (nI x) 128 := by first | exact vp_in_nI (by omega) (by omega) | (unfold vp_in; decide) | (subst_vars; first | (unfold vp_in; decide) | exact vp_in_nI (by omega) (by omega))
          refine va_iald hx hb hK hP 4 0 rfl rfl h_18 dX9_cheapestSet_47 ?_
          refine lv_topi (fun x_19 e_19 => ?_)
          have h9 : x_19 = nI (cst up x) := by rw [e_19, nI_clamp (by omega)]; exact hd1
          subst h9
          refine lv_aload_n hx hb dX9_cheapestSet_48 rfl (lv_at hl 0 rfl) ?_
          refine va_get (D := (dC, dI)) (ci := 9) (v := Value.ref pq) (C := RX9) (T := TX9) (N := 14) hx hb hts inX9 hown hK hP 1 rfl rfl 10 (by decide) (hts _ (gw kw_167 rfl)) (fun _ h9 => h9) rfl dX9_cheapestSet_49 ?_
          refine lv_iload hx hb dX9_cheapestSet_52 (lv_at hl 4 rfl) ?_
          have h_20 : vp_in (nI b) 128 := by first | exact vp_in_nI (by omega) (by omega) | (unfold vp_in; decide) | (subst_vars; first | (unfold vp_in; decide) | exact vp_in_nI (by omega) (by omega))
          refine va_iald hx hb hK hP 4 0 rfl rfl h_20 dX9_cheapestSet_54 ?_
          refine lv_topi (fun x_21 e_21 => ?_)
          have h9 : x_21 = nI (cst up b) := by rw [e_21, nI_clamp (by omega)]; exact (hl1 b (by omega)).1
          subst h9
          refine lv_icmp_gt (tgt := 62) hx hb dX9_cheapestSet_55 (by decide) (fun c_22 => ?_) (fun c_22 => ?_)
          · have hcx : cst up b < cst up x := (nI_ltI (by omega) (by omega)).mp c_22
            refine lv_iconst (v := 0) hx hb dX9_cheapestSet_62 (by decide) ?_
            refine lv_istore (lv' := [(6, Value.int 0), (0, Value.ref h1), (1, Value.int (nI i)), (2, Value.int (nI (2 ^ k))), (3, Value.int (nI (sumr W0 i (n - i)))), (4, Value.int (nI b)), (5, Value.int (nI x))]) hx hb dX9_cheapestSet_63 hl (by decide) rfl (fun ls hl => ?_)
            refine lv_iload hx hb dX9_cheapestSet_65 (lv_at hl 0 rfl) ?_
            refine lv_if_eq (tgt := 97) hx hb dX9_cheapestSet_67 (by decide) (fun c_23 => ?_) (fun c_23 => ?_)
            · have hbn := BST_dear (bl := nI b) hb1 rfl hb3 hb4 hcx
              obtain ⟨x_24, e_24⟩ : ∃ y : Int32, y = (nI x) + 1 := ⟨_, rfl⟩
              refine lv_iinc (v := x_24) (lv' := [(5, Value.int x_24), (6, Value.int 0), (0, Value.ref h1), (1, Value.int (nI i)), (2, Value.int (nI (2 ^ k))), (3, Value.int (nI (sumr W0 i (n - i)))), (4, Value.int (nI b))]) hx hb dX9_cheapestSet_97 hl (k := 6) rfl (by rw [e_24]; rfl) (by decide) rfl (fun ls hl => ?_)
              have h9 : x_24 = nI (x + 1) := by rw [e_24, nI_1]
              subst h9
              refine lv_goto (tgt := 30) hx hb dX9_cheapestSet_100 (by decide) ?_
              exact ih_30 (x + 1) (nI b) (by omega) (by omega) (hbn) _ _ _ (hP.sub [0, 1, 2, 3, 4, 5, 6, 7] rfl) (hD.sub [0, 1, 2, 3, 4, 5, 6, 7] (by decide) rfl) hS (lv_sub hl [2, 3, 4, 5, 6, 0] rfl)
            · exact absurd rfl c_23
          · have hcx : cst up x ≤ cst up b := by
              rcases Nat.lt_or_ge (cst up b) (cst up x) with q | q
              · exact absurd (nI_lt q (by omega)) c_22
              · exact q
            refine lv_iconst (v := 1) hx hb dX9_cheapestSet_58 (by decide) ?_
            refine lv_goto (tgt := 63) hx hb dX9_cheapestSet_59 (by decide) ?_
            refine lv_istore (lv' := [(6, Value.int 1), (0, Value.ref h1), (1, Value.int (nI i)), (2, Value.int (nI (2 ^ k))), (3, Value.int (nI (sumr W0 i (n - i)))), (4, Value.int (nI b)), (5, Value.int (nI x))]) hx hb dX9_cheapestSet_63 hl (by decide) rfl (fun ls hl => ?_)
            refine lv_iload hx hb dX9_cheapestSet_65 (lv_at hl 0 rfl) ?_
            refine lv_if_eq (tgt := 97) hx hb dX9_cheapestSet_67 (by decide) (fun c_25 => ?_) (fun c_25 => ?_)
            · exact absurd c_25 (by decide)
            · refine lv_aload_n hx hb dX9_cheapestSet_70 rfl (lv_at hl 1 rfl) ?_
              refine va_get (D := (dC, dI)) (ci := 9) (v := Value.ref pv) (C := RX9) (T := TX9) (N := 14) hx hb hts inX9 hown hK hP 1 rfl rfl 6 (by decide) (hts _ (gw kw_162 rfl)) (fun _ h9 => h9) rfl dX9_cheapestSet_71 ?_
              refine va_get (D := (dC, dI)) (ci := 4) (v := Value.ref es) (C := RX4) (T := TX4) (N := 8) hx hb hts inX4 hown hK hP 6 rfl rfl 4 (by decide) (hts _ (gw kw_44 rfl)) (fun _ h9 => h9) rfl dX9_cheapestSet_74 ?_
              refine lv_iconst (v := 1) hx hb dX9_cheapestSet_77 (by decide) ?_
              have h_26 : vp_in 1 5 := by unfold vp_in; decide
              refine va_iald hx hb hK hP 0 0 rfl rfl h_26 dX9_cheapestSet_78 ?_
              refine lv_topi (fun x_27 e_27 => ?_)
              have h9 : x_27 = (stf 1) := by rw [e_27]; rfl
              subst h9
              refine lv_aload_n hx hb dX9_cheapestSet_79 rfl (lv_at hl 1 rfl) ?_
              refine va_get (D := (dC, dI)) (ci := 9) (v := Value.ref pt) (C := RX9) (T := TX9) (N := 14) hx hb hts inX9 hown hK hP 1 rfl rfl 11 (by decide) (hts _ (gw kw_168 rfl)) (fun _ h9 => h9) rfl dX9_cheapestSet_80 ?_
              refine lv_iload hx hb dX9_cheapestSet_83 (lv_at hl 6 rfl) ?_
              have h_28 : vp_in (nI x) 128 := by first | exact vp_in_nI (by omega) (by omega) | (unfold vp_in; decide) | (subst_vars; first | (unfold vp_in; decide) | exact vp_in_nI (by omega) (by omega))
              refine va_iald hx hb hK hP 5 0 rfl rfl h_28 dX9_cheapestSet_85 ?_
              refine lv_topi (fun x_29 e_29 => ?_)
              have h9 : x_29 = nI (W0 i + fw + cst uw x) := by rw [e_29, nI_clamp (by omega)]; exact hd2
              subst h9
              refine lv_iload_n hx hb dX9_cheapestSet_86 rfl (lv_at hl 4 rfl) ?_
              have hpd9 := pdf_N (cx := []) hP hD hS hA [] (by decide) rfl
              have hPc := hpd9.1
              have hDc := hpd9.2.1
              have hFc := hpd9.2.2
              clear hpd9
              refine va_calli (va_runSN (As := [Value.int (stf 1), Value.int (nI (W0 i + fw + cst uw x)), Value.int (nI (sumr W0 i (n - i)))]) (rest := []) ⟨hx, hb, hml, hown, hts⟩ (c_X11_isEnough l dC dI aC H.size (stf 1) (W0 i + fw + cst uw x) (sumr W0 i (n - i)) (by omega) (by omega)) ⟨(va_cnB 3 hts (gG kw_469) rfl rfl rfl (hN.1 _ kw_467 rfl) (hts _ (gw kw_1 rfl)) hd_X11_isEnough ⟨Nat.le_of_ble_eq_true rfl, Nat.le_of_ble_eq_true rfl⟩), (hts _ (gw kw_468 rfl)), trivial⟩ ⟨fb_std, pre_std hPc hK hDc hN⟩ rfl rfl hl.1 rfl (lv_room (Nat.le_of_ble_eq_true rfl)) dX9_cheapestSet_87 ⟨Nat.le_of_ble_eq_true rfl, Nat.le_of_ble_eq_true rfl⟩) hS (fun q _ h => hFc q h) hFc (fun x_30 u9 t9 H1 locs ht hvm hw_30 hB hz1 hk1 hS => ?_)
              obtain ⟨hP1, hK1, hD1⟩ := hB
              rw [ht] at hP1
              clear hK1
              try dsimp only at hw_30
              have hpd9 : PDx (dC, dI) classes A H1 [cI aC es 5 stf, oX9 h1 po pp ps pa pe pb pv pk pu pw pq pt (nI k) (nI fw), cI aC pu 7 uf, cI aC pw 7 vf, cI aC pq 128 u_4, cI aC pt 128 u_5, oX4 pv ek ef ew ep es (nI n) sy dn, cI aC ew 8 wf] := jn_N (wr := [cI aC es 5 stf, oX9 h1 po pp ps pa pe pb pv pk pu pw pq pt (nI k) (nI fw), cI aC pu 7 uf, cI aC pw 7 vf, cI aC pq 128 u_4, cI aC pt 128 u_5, oX4 pv ek ef ew ep es (nI n) sy dn, cI aC ew 8 wf]) hFc hk1 hP1 hD1 hP hD [] [0, 1, 2, 3, 4, 5, 6, 7] rfl rfl (by decide) (by decide)
              have hP := hpd9.1
              have hD := hpd9.2
              clear hpd9
              generalize H1 = H at hP hS ⊢
              clear hPc hDc hFc hz1 hk1 hP1 hD1 ht hvm
              have hz_87 := hw_30
              refine lv_if_eq (tgt := 97) hx hb dX9_cheapestSet_90 (by decide) (fun c_31 => ?_) (fun c_31 => ?_)
              · have hEx : ¬ (fun z => nd (stf 1) (sumr W0 i (n - i)) ≤ W0 i + fw + cst uw z) x := fun q => absurd (hz_87.symm.trans c_31) (by rw [if_pos q]; decide)
                have hbn := BST_no (ct := cst up) (bl := nI b) (Or.inr ⟨b, hb1, rfl, hb3, hb4⟩) hEx
                obtain ⟨x_32, e_32⟩ : ∃ y : Int32, y = (nI x) + 1 := ⟨_, rfl⟩
                refine lv_iinc (v := x_32) (lv' := [(5, Value.int x_32), (6, Value.int 1), (0, Value.ref h1), (1, Value.int (nI i)), (2, Value.int (nI (2 ^ k))), (3, Value.int (nI (sumr W0 i (n - i)))), (4, Value.int (nI b))]) hx hb dX9_cheapestSet_97 hl (k := 6) rfl (by rw [e_32]; rfl) (by decide) rfl (fun ls hl => ?_)
                have h9 : x_32 = nI (x + 1) := by rw [e_32, nI_1]
                subst h9
                refine lv_goto (tgt := 30) hx hb dX9_cheapestSet_100 (by decide) ?_
                exact ih_30 (x + 1) (nI b) (by omega) (by omega) (hbn) _ _ _ (hP.sub [0, 1, 2, 3, 4, 5, 6, 7] rfl) (hD.sub [0, 1, 2, 3, 4, 5, 6, 7] (by decide) rfl) hS (lv_sub hl [2, 3, 4, 5, 6, 0] rfl)
              · refine lv_iload hx hb dX9_cheapestSet_93 (lv_at hl 6 rfl) ?_
                refine lv_istore (lv' := [(4, Value.int (nI x)), (6, Value.int 1), (0, Value.ref h1), (1, Value.int (nI i)), (2, Value.int (nI (2 ^ k))), (3, Value.int (nI (sumr W0 i (n - i)))), (5, Value.int (nI x))]) hx hb dX9_cheapestSet_95 hl (by decide) rfl (fun ls hl => ?_)
                have hEx : (fun z => nd (stf 1) (sumr W0 i (n - i)) ≤ W0 i + fw + cst uw z) x := by
                  by_cases q : nd (stf 1) (sumr W0 i (n - i)) ≤ W0 i + fw + cst uw x
                  · exact q
                  · exact absurd (by rw [hz_87, if_neg q]) c_31
                have hbn := BST_take hb1 hb4 hEx hcx
                obtain ⟨x_33, e_33⟩ : ∃ y : Int32, y = (nI x) + 1 := ⟨_, rfl⟩
                refine lv_iinc (v := x_33) (lv' := [(5, Value.int x_33), (4, Value.int (nI x)), (6, Value.int 1), (0, Value.ref h1), (1, Value.int (nI i)), (2, Value.int (nI (2 ^ k))), (3, Value.int (nI (sumr W0 i (n - i))))]) hx hb dX9_cheapestSet_97 hl (k := 6) rfl (by rw [e_33]; rfl) (by decide) rfl (fun ls hl => ?_)
                have h9 : x_33 = nI (x + 1) := by rw [e_33, nI_1]
                subst h9
                refine lv_goto (tgt := 30) hx hb dX9_cheapestSet_100 (by decide) ?_
                exact ih_30 (x + 1) (nI x) (by omega) (by omega) (hbn) _ _ _ (hP.sub [0, 1, 2, 3, 4, 5, 6, 7] rfl) (hD.sub [0, 1, 2, 3, 4, 5, 6, 7] (by decide) rfl) hS (lv_sub hl [3, 4, 5, 6, 1, 0] rfl)
  exact lp_30 ((2 ^ k - 0) + 1) 0 (-9) (Nat.lt_succ_self _) (Nat.zero_le _) (BST_0) _ _ _ (hP.sub [0, 1, 2, 3, 4, 5, 6, 7] rfl) (hD.sub [0, 1, 2, 3, 4, 5, 6, 7] (by decide) rfl) hS (lv_sub hl [4, 5, 3, 2, 1, 0] rfl)

end

section
/-! 39.plans7 -/
theorem mu_in {fst : Int32} {n i u : Nat} (h : i + 1 + u < n) : i < mu fst n i u ∧ mu fst n i u < n := by
  unfold mu
  split <;> omega
/-- the men of a set of units -/
def mb (fst : Int32) (n i b y q : Nat) : Bool := (List.range y).any (fun u => b.testBit u && decide (mu fst n i u = q))
theorem mb_0 {fst : Int32} {n i b q : Nat} : mb fst n i b 0 q = false := rfl
theorem mb_s {fst : Int32} {n i b y q : Nat} : mb fst n i b (y + 1) q = (mb fst n i b y q || (b.testBit y && decide (mu fst n i y = q))) := by
  unfold mb
  rw [List.range_succ, List.any_append]
  simp
theorem mb_i {fst : Int32} {n i b y : Nat} (h : i + y < n) : mb fst n i b y i = false := by
  induction y with
  | zero => rfl
  | succ y ih =>
    rw [mb_s, ih (by omega), decide_eq_false (fun q => by have := (mu_in (fst := fst) (n := n) (i := i) (u := y) (by omega)).1; omega)]
    simp
def uwf (fst : Int32) (n i : Nat) (Pq W : Nat → Nat) (u : Nat) : Nat := if 0 < Pq (mu fst n i u) then W (mu fst n i u) else 0
def frf (fst : Int32) (n i : Nat) (Pq W : Nat → Nat) (u : Nat) : Nat := if 0 < Pq (mu fst n i u) then 0 else W (mu fst n i u)
theorem b_get {b u : Nat} (hb : b < 2 ^ 31) (hu : u < 31) : bt (nI b) u = b.testBit u := by
  unfold bt nI
  show (BitVec.ofNat 32 b).getLsbD u = _
  rw [BitVec.getLsbD_ofNat]
  simp
  omega
theorem m9_ne {b : Nat} (h : b < 2 ^ 31) : ¬ (-9 : Int32) = nI b := fun q => nI_pos h (by rw [← q]; decide)
theorem bc_none {ct : Nat → Nat} {N cq : Nat} {r : Int32} (hN : N ≤ 1000) (h : r = -9 ∨ ∃ b, b < N ∧ r = nI b ∧ cq < ct b) {b : Nat} (q1 : b < N) (q2 : r = nI b) (q3 : ct b ≤ cq) : False := by
  rcases h with h | ⟨b2, h1, h2, h3⟩
  · exact m9_ne (b := b) (by omega) (h.symm.trans q2)
  · have h5 := (nI_eq (by omega) (by omega)).mp (h2.symm.trans q2)
    rw [h5] at h3
    omega

set_option maxHeartbeats 1000000 in
set_option maxRecDepth 100000 in
/-- X9_buyCheapest -/
theorem c_X9_buyCheapest (l : Launch) (dC : Nat → ClassId) (dI : Nat → Nat → Nat) (aC : Nat → ClassId) (sz : Nat) (h1 : Nat) (po : Nat) (pp : Nat) (ps : Nat) (pa : Nat) (pe : Nat) (pb : Nat) (pv : Nat) (pk : Nat) (pu : Nat) (pw : Nat) (pq : Nat) (pt : Nat) (un : Int32) (fw : Int32) (ek : Nat) (ef : Nat) (ew : Nat) (ep : Nat) (es : Nat) (n : Nat) (sy : Int32) (dn : Int32) (wf : Nat → Int32) (stf : Nat → Int32) (W0 : Nat → Nat) (i : Nat) (cq : Nat) (O : Nat → Nat) (Pq : Nat → Nat) (uf : Nat → Int32) (vf : Nat → Int32) (qf : Nat → Int32) (tf : Nat → Int32) (bf : Nat → Int32) (L : List Nat) (g : Nat → Nat → Int32) (fo : Nat → Option Nat) (fp : Nat → Option Nat) (fs : Nat → Option Nat) (ro : Nat → Nat) (rp : Nat → Nat) (rs : Nat → Nat) (hgr : GRD L fo fp fs ro rp rs) (hw : n ≤ 8 ∧ ∀ j, j < n → wf j = nI (W0 j) ∧ W0 j ≤ 9) (hi : i < n) (hcq : stf 0 = nI cq ∧ cq ≤ 99) (hO : ∀ q, q < 8 → g (ro i) q = nI (O q)) (hO9 : ∀ q, O q ≤ 99) (hOc : O i = cq) (hPq : ∀ q, i < q → q < n → g (rp i) q = nI (Pq q) ∧ Pq q ≤ 110) : Met l yX9_buyCheapest (wW yX9_buyCheapest cX9_buyCheapest 6 (none : Option FieldType)) ({ frames := 3, cells := 0, slots := 0, locals := 62 } : Room) (va_Pc [Value.ref h1, Value.int (nI i)] (fun U => U.heap.size = sz ∧ va_P (dC, dI) classes (wp [oX9 h1 po pp ps pa pe pb pv pk pu pw pq pt un fw, oX4 pv ek ef ew ep es (nI n) sy dn, cI aC ew 8 wf, cI aC es 5 stf, cA aC pp 8 fp, cA aC po 8 fo, cI aC pb 8 bf, cI aC pu 7 uf, cI aC pw 7 vf, cI aC pq 128 qf, cI aC pt 128 tf] (va_pl L (plE aC g))) U.heap ∧ va_K (dC, dI) classes (TY aC) U ∧ va_D (fun _ => True) (wp [oX9 h1 po pp ps pa pe pb pv pk pu pw pq pt un fw, oX4 pv ek ef ew ep es (nI n) sy dn, cI aC ew 8 wf, cI aC es 5 stf, cA aC pp 8 fp, cA aC po 8 fo, cI aC pb 8 bf, cI aC pu 7 uf, cI aC pw 7 vf, cI aC pq 128 qf, cI aC pt 128 tf] (va_pl L (plE aC g))) ∧ NX U)) (va_Qv (fun (u : Int32 × Int32 × (Nat → Int32) × (Nat → Int32) × (Nat → Int32) × (Nat → Int32) × (Nat → Int32) × (Nat → Nat → Int32) × Int32) => match u with | (un2, fw2, ug, vg, qg, tg, bg, g2, rb) => BST (fun z => nd (stf 1) (sumr W0 i (n - i)) ≤ W0 i + sumr (frf (stf 3) n i Pq W0) 0 (n - 1 - i) + cst (uwf (stf 3) n i Pq W0) z) (cst (fun u => Pq (mu (stf 3) n i u))) (2 ^ (n - 1 - i)) rb ∧ (∀ b, b < 2 ^ (n - 1 - i) → rb = nI b → cst (fun u => Pq (mu (stf 3) n i u)) b ≤ cq → (∀ q, q < 32 → bt (bg i) q = mb (stf 3) n i b (n - 1 - i) q) ∧ ∀ q, q < 8 → g2 (ro i) q = nI (if q = i then O i - cst (fun u => Pq (mu (stf 3) n i u)) b else if mb (stf 3) n i b (n - 1 - i) q = true then Pq q else O q)) ∧ ((rb = -9 ∨ ∃ b, b < 2 ^ (n - 1 - i) ∧ rb = nI b ∧ cq < cst (fun u => Pq (mu (stf 3) n i u)) b) → bg i = bf i ∧ ∀ q, q < 8 → g2 (ro i) q = g (ro i) q) ∧ (∀ q, q ≠ i → bg q = bf q) ∧ ∀ a, a ≠ ro i → g2 a = g a) (fun (u : Int32 × Int32 × (Nat → Int32) × (Nat → Int32) × (Nat → Int32) × (Nat → Int32) × (Nat → Int32) × (Nat → Nat → Int32) × Int32) (t : State) => match u with | (un2, fw2, ug, vg, qg, tg, bg, g2, rb) => va_P (dC, dI) classes (wp [oX9 h1 po pp ps pa pe pb pv pk pu pw pq pt un2 fw2, oX4 pv ek ef ew ep es (nI n) sy dn, cI aC ew 8 wf, cI aC es 5 stf, cA aC pp 8 fp, cA aC po 8 fo, cI aC pb 8 bg, cI aC pu 7 ug, cI aC pw 7 vg, cI aC pq 128 qg, cI aC pt 128 tg] (va_pl L (plE aC g2))) t.heap ∧ va_K (dC, dI) classes (TY aC) t ∧ va_D (va_A (wp [oX9 h1 po pp ps pa pe pb pv pk pu pw pq pt un fw, oX4 pv ek ef ew ep es (nI n) sy dn, cI aC ew 8 wf, cI aC es 5 stf, cA aC pp 8 fp, cA aC po 8 fo, cI aC pb 8 bf, cI aC pu 7 uf, cI aC pw 7 vf, cI aC pq 128 qf, cI aC pt 128 tf] (va_pl L (plE aC g))) sz) (wp [oX9 h1 po pp ps pa pe pb pv pk pu pw pq pt un2 fw2, oX4 pv ek ef ew ep es (nI n) sy dn, cI aC ew 8 wf, cI aC es 5 stf, cA aC pp 8 fp, cA aC po 8 fo, cI aC pb 8 bg, cI aC pu 7 ug, cI aC pw 7 vg, cI aC pq 128 qg, cI aC pt 128 tg] (va_pl L (plE aC g2)))) (va_A (wp [oX9 h1 po pp ps pa pe pb pv pk pu pw pq pt un fw, oX4 pv ek ef ew ep es (nI n) sy dn, cI aC ew 8 wf, cI aC es 5 stf, cA aC pp 8 fp, cA aC po 8 fo, cI aC pb 8 bf, cI aC pu 7 uf, cI aC pw 7 vf, cI aC pq 128 qf, cI aC pt 128 tf] (va_pl L (plE aC g))) sz)) 0 0 (va_A (wp [oX9 h1 po pp ps pa pe pb pv pk pu pw pq pt un fw, oX4 pv ek ef ew ep es (nI n) sy dn, cI aC ew 8 wf, cI aC es 5 stf, cA aC pp 8 fp, cA aC po 8 fo, cI aC pb 8 bf, cI aC pu 7 uf, cI aC pw 7 vf, cI aC pq 128 qf, cI aC pt 128 tf] (va_pl L (plE aC g))) sz) := by
  refine Met.ofW (cc := cX9_buyCheapest) (maxL := 6) (ret := (none : Option FieldType)) (by decide) rfl ?_
  intro p e s m args below meth c s₁ B hml hv
  obtain ⟨rfl, hsz, hP, hK, hD0, hN⟩ := hv
  have hx := B.exec
  have hb := B.bytes
  have hr := B.returns
  have hts0 := atoms_spec (ws := (wW yX9_buyCheapest cX9_buyCheapest 6 (none : Option FieldType))) B.pre
  have hts : ∀ w9 ∈ lw_G, w9.before ([Value.ref h1, Value.int (nI i)] : List Value).toArray s = true := fun w9 h9 => hts0 w9 (List.mem_cons_of_mem _ h9)
  have hown : s.vm.findClass RX9 = some m.cls := findClass_of_methodNamed (x := yX9_buyCheapest) B.named
  have hlocks := B.notSynchronized
  subst hsz
  have hD := hD0.self (sz := s.heap.size)
  generalize hAe : va_A (wp [oX9 h1 po pp ps pa pe pb pv pk pu pw pq pt un fw, oX4 pv ek ef ew ep es (nI n) sy dn, cI aC ew 8 wf, cI aC es 5 stf, cA aC pp 8 fp, cA aC po 8 fo, cI aC pb 8 bf, cI aC pu 7 uf, cI aC pw 7 vf, cI aC pq 128 qf, cI aC pt 128 tf] (va_pl L (plE aC g))) s.heap.size = A at hD ⊢
  have hA : ∀ q : Nat, s.heap.size ≤ q → A q := fun q h => by rw [← hAe]; exact Or.inr h
  obtain ⟨H, hHe⟩ : ∃ H : Heap, H = s.heap := ⟨_, rfl⟩
  have hS : va_S A s.heap H [] := by rw [hHe]; exact va_S.rf
  have hP : va_P (dC, dI) classes (wp [oX9 h1 po pp ps pa pe pb pv pk pu pw pq pt un fw, oX4 pv ek ef ew ep es (nI n) sy dn, cI aC ew 8 wf, cI aC es 5 stf, cA aC pp 8 fp, cA aC po 8 fo, cI aC pb 8 bf, cI aC pu 7 uf, cI aC pw 7 vf, cI aC pq 128 qf, cI aC pt 128 tf] (va_pl L (plE aC g))) H := by rw [hHe]; exact hP
  have hl := lv_entry ([Value.ref h1, Value.int (nI i)]) (n := 6) (Nat.le_of_ble_eq_true rfl)
  rw [lg_entry_eq]
  generalize (lg_sl ([Value.ref h1, Value.int (nI i)]) ++ List.replicate (6 - (lg_sl ([Value.ref h1, Value.int (nI i)])).length) Slot.unset).toArray = ls at hl ⊢
  have hl : lv_has ls 6 [(0, Value.ref h1), (1, Value.int (nI i))] := hl
  rw [← hHe]
  have hn8 := hw.1
  have hp7 := p2_le (t := n - 1 - i) (by omega)
  have hPle : ∀ v, v < n - 1 - i → Pq (mu (stf 3) n i v) ≤ 110 := fun v hv => by
    have h8 := mu_in (fst := stf 3) (n := n) (i := i) (u := v) (by omega)
    exact (hPq _ h8.1 h8.2).2
  have hWle : ∀ v, v < n - 1 - i → W0 (mu (stf 3) n i v) ≤ 9 := fun v hv => (hw.2 _ (mu_in (fst := stf 3) (n := n) (i := i) (u := v) (by omega)).2).2
  have hg2 : g = g := rfl
  refine lv_aload_n hx hb dX9_buyCheapest_0 rfl (lv_at hl 0 rfl) ?_
  have hpd9 := pdf_N (cx := [oX9 h1 po pp ps pa pe pb pv pk pu pw pq pt un fw]) hP hD hS hA [0] (by decide) rfl
  have hPc := hpd9.1
  have hDc := hpd9.2.1
  have hFc := hpd9.2.2
  clear hpd9
  refine va_callv (va_runV (As := []) (rest := []) ⟨hx, hb, hml, hown, hts⟩ (c_X9_forgetUnits l dC dI aC H.size h1 po pp ps pa pe pb pv pk pu pw pq pt un fw ) ⟨(callB_of 0 hts (gG kw_445) rfl rfl rfl (hts _ (gw kw_11 rfl)) (hts _ (gw kw_442 rfl)) hd_X9_forgetUnits ⟨Nat.le_of_ble_eq_true rfl, Nat.le_of_ble_eq_true rfl⟩), (hts _ (gw kw_444 rfl)), (hts _ (gw ks_11 rfl))⟩ ⟨fb_std, va_recv (q := (RX9, TX9, 14)) hK hPc (ci := 9) (q0 := 0) rfl rfl, pre_std hPc hK hDc hN⟩ rfl rfl hl.1 rfl (lv_room (Nat.le_of_ble_eq_true rfl)) dX9_buyCheapest_1 ⟨Nat.le_of_ble_eq_true rfl, Nat.le_of_ble_eq_true rfl⟩) hS (fun q _ h => hFc q h) hFc (fun u9 t9 H1 locs ht hvm hw_1 hB hz1 hk1 hS => ?_)
  obtain ⟨hP1, hK1, hD1⟩ := hB
  rw [ht] at hP1
  clear hK1
  try dsimp only at hw_1
  have hpd9 : PDx (dC, dI) classes A H1 (wp [oX4 pv ek ef ew ep es (nI n) sy dn, cI aC ew 8 wf, cI aC es 5 stf, cA aC pp 8 fp, cA aC po 8 fo, cI aC pb 8 bf, cI aC pu 7 uf, cI aC pw 7 vf, cI aC pq 128 qf, cI aC pt 128 tf, oX9 h1 po pp ps pa pe pb pv pk pu pw pq pt 0 0] (va_pl L (plE aC g))) := jn_Q (wr := [oX4 pv ek ef ew ep es (nI n) sy dn, cI aC ew 8 wf, cI aC es 5 stf, cA aC pp 8 fp, cA aC po 8 fo, cI aC pb 8 bf, cI aC pu 7 uf, cI aC pw 7 vf, cI aC pq 128 qf, cI aC pt 128 tf]) hFc hk1 hP1 hD1 hP hD [0] [1, 2, 3, 4, 5, 6, 7, 8, 9, 10] rfl rfl (by decide) (by decide)
  have hP := hpd9.1
  have hD := hpd9.2
  clear hpd9
  generalize H1 = H at hP hS ⊢
  clear hPc hDc hFc hz1 hk1 hP1 hD1 ht hvm
  refine lv_aload_n hx hb dX9_buyCheapest_4 rfl (lv_at hl 0 rfl) ?_
  refine va_get (D := (dC, dI)) (ci := 9) (v := Value.ref pv) (C := RX9) (T := TX9) (N := 14) hx hb hts inX9 hown hK hP 10 rfl rfl 6 (by decide) (hts _ (gw kw_162 rfl)) (fun _ h9 => h9) rfl dX9_buyCheapest_5 ?_
  refine va_get (D := (dC, dI)) (ci := 4) (v := Value.int (nI n)) (C := RX4) (T := TX4) (N := 8) hx hb hts inX4 hown hK hP 0 rfl rfl 5 (by decide) (hts _ (gw kw_47 rfl)) (fun _ h9 => h9) rfl dX9_buyCheapest_8 ?_
  refine lv_iconst (v := 1) hx hb dX9_buyCheapest_11 (by decide) ?_
  refine lv_isub hx hb dX9_buyCheapest_12 ?_
  refine lv_topi (fun x_2 e_2 => ?_)
  have h9 : x_2 = nI (n - 1) := by rw [e_2]; exact pk_sub (a := n) (b := 1) (by omega)
  subst h9
  refine lv_iload_n hx hb dX9_buyCheapest_13 rfl (lv_at hl 1 rfl) ?_
  refine lv_isub hx hb dX9_buyCheapest_14 ?_
  refine lv_topi (fun x_3 e_3 => ?_)
  have h9 : x_3 = nI (n - 1 - i) := by rw [e_3]; exact pk_sub (by omega)
  subst h9
  refine lv_istore_n (lv' := [(2, Value.int (nI (n - 1 - i))), (0, Value.ref h1), (1, Value.int (nI i))]) hx hb dX9_buyCheapest_15 rfl hl (by decide) rfl (fun ls hl => ?_)
  refine lv_iconst (v := 0) hx hb dX9_buyCheapest_16 (by decide) ?_
  refine lv_istore_n (lv' := [(3, Value.int 0), (2, Value.int (nI (n - 1 - i))), (0, Value.ref h1), (1, Value.int (nI i))]) hx hb dX9_buyCheapest_17 rfl hl (by decide) rfl (fun ls hl => ?_)
  have lp_18 : ∀ (fu : Nat) (u : Nat) (uc : Nat → Int32) (vc : Nat → Int32) (hfu : n - 1 - i - u < fu) (hu9 : u ≤ n - 1 - i) (hv1 : ∀ v, v < u → uc v = nI (Pq (mu (stf 3) n i v)) ∧ vc v = nI (uwf (stf 3) n i Pq W0 v)) (H : Heap) (locs : List Loc) (ls : Array Slot), va_P (dC, dI) classes (wp [oX4 pv ek ef ew ep es (nI n) sy dn, cI aC ew 8 wf, cI aC es 5 stf, cA aC pp 8 fp, cA aC po 8 fo, cI aC pb 8 bf, cI aC pu 7 uc, cI aC pw 7 vc, cI aC pq 128 qf, cI aC pt 128 tf, oX9 h1 po pp ps pa pe pb pv pk pu pw pq pt (nI u) (nI (sumr (frf (stf 3) n i Pq W0) 0 u))] (va_pl L (plE aC g))) H → va_D A (wp [oX4 pv ek ef ew ep es (nI n) sy dn, cI aC ew 8 wf, cI aC es 5 stf, cA aC pp 8 fp, cA aC po 8 fo, cI aC pb 8 bf, cI aC pu 7 uc, cI aC pw 7 vc, cI aC pq 128 qf, cI aC pt 128 tf, oX9 h1 po pp ps pa pe pb pv pk pu pw pq pt (nI u) (nI (sumr (frf (stf 3) n i Pq W0) 0 u))] (va_pl L (plE aC g))) → va_S A s.heap H locs → lv_has ls 6 [(0, Value.ref h1), (1, Value.int (nI i)), (2, Value.int (nI (n - 1 - i))), (3, Value.int (nI u))] → W p l e (headSpec (wW yX9_buyCheapest cX9_buyCheapest 6 (none : Option FieldType)) ({ frames := 3, cells := 0, slots := 0, locals := 62 } : Room)).room s m ([Value.ref h1, Value.int (nI i)] : List Value).toArray below meth c H locs 0 0 (MQ below (va_Qv (fun (u : Int32 × Int32 × (Nat → Int32) × (Nat → Int32) × (Nat → Int32) × (Nat → Int32) × (Nat → Int32) × (Nat → Nat → Int32) × Int32) => match u with | (un2, fw2, ug, vg, qg, tg, bg, g2, rb) => BST (fun z => nd (stf 1) (sumr W0 i (n - i)) ≤ W0 i + sumr (frf (stf 3) n i Pq W0) 0 (n - 1 - i) + cst (uwf (stf 3) n i Pq W0) z) (cst (fun u => Pq (mu (stf 3) n i u))) (2 ^ (n - 1 - i)) rb ∧ (∀ b, b < 2 ^ (n - 1 - i) → rb = nI b → cst (fun u => Pq (mu (stf 3) n i u)) b ≤ cq → (∀ q, q < 32 → bt (bg i) q = mb (stf 3) n i b (n - 1 - i) q) ∧ ∀ q, q < 8 → g2 (ro i) q = nI (if q = i then O i - cst (fun u => Pq (mu (stf 3) n i u)) b else if mb (stf 3) n i b (n - 1 - i) q = true then Pq q else O q)) ∧ ((rb = -9 ∨ ∃ b, b < 2 ^ (n - 1 - i) ∧ rb = nI b ∧ cq < cst (fun u => Pq (mu (stf 3) n i u)) b) → bg i = bf i ∧ ∀ q, q < 8 → g2 (ro i) q = g (ro i) q) ∧ (∀ q, q ≠ i → bg q = bf q) ∧ ∀ a, a ≠ ro i → g2 a = g a) (fun (u : Int32 × Int32 × (Nat → Int32) × (Nat → Int32) × (Nat → Int32) × (Nat → Int32) × (Nat → Int32) × (Nat → Nat → Int32) × Int32) (t : State) => match u with | (un2, fw2, ug, vg, qg, tg, bg, g2, rb) => va_P (dC, dI) classes (wp [oX9 h1 po pp ps pa pe pb pv pk pu pw pq pt un2 fw2, oX4 pv ek ef ew ep es (nI n) sy dn, cI aC ew 8 wf, cI aC es 5 stf, cA aC pp 8 fp, cA aC po 8 fo, cI aC pb 8 bg, cI aC pu 7 ug, cI aC pw 7 vg, cI aC pq 128 qg, cI aC pt 128 tg] (va_pl L (plE aC g2))) t.heap ∧ va_K (dC, dI) classes (TY aC) t ∧ va_D A (wp [oX9 h1 po pp ps pa pe pb pv pk pu pw pq pt un2 fw2, oX4 pv ek ef ew ep es (nI n) sy dn, cI aC ew 8 wf, cI aC es 5 stf, cA aC pp 8 fp, cA aC po 8 fo, cI aC pb 8 bg, cI aC pu 7 ug, cI aC pw 7 vg, cI aC pq 128 qg, cI aC pt 128 tg] (va_pl L (plE aC g2)))) A) ([Value.ref h1, Value.int (nI i)] : List Value).toArray s 0 0 A) (F0 m 18 ls []) := by
    intro fu
    induction fu with
    | zero => intro u uc vc hfu; exact absurd hfu (Nat.not_lt_zero _)
    | succ fu ih_18 =>
      intro u uc vc hfu hu9 hv1 H locs ls hP hD hS hl
      refine lv_iload_n hx hb dX9_buyCheapest_18 rfl (lv_at hl 3 rfl) ?_
      refine lv_iload_n hx hb dX9_buyCheapest_19 rfl (lv_at hl 2 rfl) ?_
      refine lv_icmp_ge (tgt := 60) hx hb dX9_buyCheapest_20 (by decide) (fun c_4 => ?_) (fun c_4 => ?_)
      · have hue : u = n - 1 - i := by
          rcases Nat.lt_or_ge u (n - 1 - i) with q | q
          · exact absurd c_4 (nI_ge q (by omega))
          · omega
        subst hue
        have hfr9 := sumr_le (f := (frf (stf 3) n i Pq W0)) (a := 0) (b := 9) (k := n - 1 - i) (fun v _ q => by have := hWle v (by omega); unfold frf; split <;> omega)
        refine lv_aload_n hx hb dX9_buyCheapest_60 rfl (lv_at hl 0 rfl) ?_
        refine lv_iload_n hx hb dX9_buyCheapest_61 rfl (lv_at hl 1 rfl) ?_
        have hpd9 := pdf_N (cx := [oX9 h1 po pp ps pa pe pb pv pk pu pw pq pt (nI (n - 1 - i)) (nI (sumr (frf (stf 3) n i Pq W0) 0 (n - 1 - i))), oX4 pv ek ef ew ep es (nI n) sy dn, cI aC ew 8 wf, cI aC es 5 stf, cI aC pu 7 uc, cI aC pw 7 vc, cI aC pq 128 qf, cI aC pt 128 tf]) hP hD hS hA [10, 0, 1, 2, 6, 7, 8, 9] (by decide) rfl
        have hPc := hpd9.1
        have hDc := hpd9.2.1
        have hFc := hpd9.2.2
        clear hpd9
        refine va_calli (va_runV (As := [Value.int (nI i)]) (rest := []) ⟨hx, hb, hml, hown, hts⟩ (c_X9_cheapestSet l dC dI aC H.size h1 po pp ps pa pe pb pv pk pu pw pq pt ek ef ew ep es n sy dn wf stf W0 i (n - 1 - i) (sumr (frf (stf 3) n i Pq W0) 0 (n - 1 - i)) (fun u => Pq (mu (stf 3) n i u)) (uwf (stf 3) n i Pq W0) uc vc qf tf (hw) (hi) (by omega) (by omega) (fun v q => ⟨hv1 v (by omega), by have := hWle v q; unfold uwf; split <;> omega, by have := hPle v q; show Pq _ ≤ 200; omega⟩)) ⟨(callB_of 1 hts (gG kw_457) rfl rfl rfl (hts _ (gw kw_11 rfl)) (hts _ (gw kw_454 rfl)) hd_X9_cheapestSet ⟨Nat.le_of_ble_eq_true rfl, Nat.le_of_ble_eq_true rfl⟩), (hts _ (gw kw_456 rfl)), (hts _ (gw ks_14 rfl))⟩ ⟨fb_std, va_recv (q := (RX9, TX9, 14)) hK hPc (ci := 9) (q0 := 0) rfl rfl, pre_std hPc hK hDc hN⟩ rfl rfl hl.1 rfl (lv_room (Nat.le_of_ble_eq_true rfl)) dX9_buyCheapest_62 ⟨Nat.le_of_ble_eq_true rfl, Nat.le_of_ble_eq_true rfl⟩) hS (fun q _ h => hFc q h) hFc (fun x_5 u9 t9 H1 locs ht hvm hw_5 hB hz1 hk1 hS => ?_)
        obtain ⟨u_6, u_7⟩ := u9
        obtain ⟨hP1, hK1, hD1⟩ := hB
        rw [ht] at hP1
        clear hK1
        try dsimp only at hw_5
        have hpd9 : PDx (dC, dI) classes A H1 (wp [cA aC pp 8 fp, cA aC po 8 fo, cI aC pb 8 bf, oX9 h1 po pp ps pa pe pb pv pk pu pw pq pt (nI (n - 1 - i)) (nI (sumr (frf (stf 3) n i Pq W0) 0 (n - 1 - i))), oX4 pv ek ef ew ep es (nI n) sy dn, cI aC ew 8 wf, cI aC es 5 stf, cI aC pu 7 uc, cI aC pw 7 vc, cI aC pq 128 u_6, cI aC pt 128 u_7] (va_pl L (plE aC g))) := jn_Q (wr := [cA aC pp 8 fp, cA aC po 8 fo, cI aC pb 8 bf]) hFc hk1 hP1 hD1 hP hD [10, 0, 1, 2, 6, 7, 8, 9] [3, 4, 5] rfl rfl (by decide) (by decide)
        have hP := hpd9.1
        have hD := hpd9.2
        clear hpd9
        generalize H1 = H at hP hS ⊢
        clear hPc hDc hFc hz1 hk1 hP1 hD1 ht hvm
        obtain ⟨hbst, hqg⟩ := hw_5
        refine lv_istore_n (lv' := [(3, Value.int x_5), (0, Value.ref h1), (1, Value.int (nI i)), (2, Value.int (nI (n - 1 - i)))]) hx hb dX9_buyCheapest_65 rfl hl (by decide) rfl (fun ls hl => ?_)
        refine lv_iload_n hx hb dX9_buyCheapest_66 rfl (lv_at hl 0 rfl) ?_
        refine lv_if_lt (tgt := 88) hx hb dX9_buyCheapest_67 (by decide) (fun c_8 => ?_) (fun c_8 => ?_)
        · have hpd9 := pd_P (cx := [oX9 h1 po pp ps pa pe pb pv pk pu pw pq pt (nI (n - 1 - i)) (nI (sumr (frf (stf 3) n i Pq W0) 0 (n - 1 - i))), oX4 pv ek ef ew ep es (nI n) sy dn, cI aC ew 8 wf, cI aC es 5 stf, cA aC pp 8 fp, cA aC po 8 fo, cI aC pb 8 bf, cI aC pu 7 uc, cI aC pw 7 vc, cI aC pq 128 u_6, cI aC pt 128 u_7]) hP hD [3, 4, 5, 6, 0, 1, 2, 7, 8, 9, 10] (by decide) rfl
          have hP9 := hpd9.1
          have hD9 := hpd9.2
          refine W.widen (k := 0) (n := 0) (by omega) (by omega) ?_
          exact W.vret hx hb hr (fun t ht hW => ⟨⟨((nI (n - 1 - i)), (nI (sumr (frf (stf 3) n i Pq W0) 0 (n - 1 - i))), uc, vc, u_6, u_7, bf, g, x_5), rfl, ⟨hbst, fun b' q1 q2 q3 => (bc_none (ct := cst (fun u => Pq (mu (stf 3) n i u))) (N := 2 ^ (n - 1 - i)) (cq := cq) (by omega) (Or.inl (hbst.resolve_right (fun ⟨b, q1, q2, _⟩ => absurd c_8 (by rw [q2]; exact nI_pos (by omega)))).1) q1 q2 q3).elim, fun _ => ⟨rfl, fun q hq => rfl⟩, fun q _ => rfl, fun a _ => rfl⟩, by rw [ht]; exact hP9, va_K.moved hW.alike hK, hD9⟩, hS.F ht⟩) hS.2.2 dX9_buyCheapest_88
        · obtain ⟨b, hb1, hb2, hb3, hb4⟩ := hbst.resolve_left (fun h => c_8 (by rw [h.1]; decide))
          have h9 : x_5 = nI b := hb2
          subst h9
          have hcb := cst_le (f := (fun u => Pq (mu (stf 3) n i u))) (k := (n - 1 - i)) (s := b) (b := 110) hb1 (fun v q => hPle v (by omega))
          refine lv_aload_n hx hb dX9_buyCheapest_70 rfl (lv_at hl 1 rfl) ?_
          refine va_get (D := (dC, dI)) (ci := 9) (v := Value.ref pq) (C := RX9) (T := TX9) (N := 14) hx hb hts inX9 hown hK hP 3 rfl rfl 10 (by decide) (hts _ (gw kw_167 rfl)) (fun _ h9 => h9) rfl dX9_buyCheapest_71 ?_
          refine lv_iload_n hx hb dX9_buyCheapest_74 rfl (lv_at hl 0 rfl) ?_
          have h_9 : vp_in (nI b) 128 := vp_in_nI (by omega) (by omega)
          refine va_iald hx hb hK hP 9 0 rfl rfl h_9 dX9_buyCheapest_75 ?_
          refine lv_topi (fun x_10 e_10 => ?_)
          have h9 : x_10 = nI (cst (fun u => Pq (mu (stf 3) n i u)) b) := by rw [e_10, nI_clamp (by omega)]; exact hqg b hb1
          subst h9
          refine lv_aload_n hx hb dX9_buyCheapest_76 rfl (lv_at hl 1 rfl) ?_
          refine va_get (D := (dC, dI)) (ci := 9) (v := Value.ref pv) (C := RX9) (T := TX9) (N := 14) hx hb hts inX9 hown hK hP 3 rfl rfl 6 (by decide) (hts _ (gw kw_162 rfl)) (fun _ h9 => h9) rfl dX9_buyCheapest_77 ?_
          refine va_get (D := (dC, dI)) (ci := 4) (v := Value.ref es) (C := RX4) (T := TX4) (N := 8) hx hb hts inX4 hown hK hP 4 rfl rfl 4 (by decide) (hts _ (gw kw_44 rfl)) (fun _ h9 => h9) rfl dX9_buyCheapest_80 ?_
          refine lv_iconst (v := 0) hx hb dX9_buyCheapest_83 (by decide) ?_
          have h_11 : vp_in 0 5 := by first | exact vp_in_nI (by omega) (by omega) | (unfold vp_in; decide) | (subst_vars; first | (unfold vp_in; decide) | exact vp_in_nI (by omega) (by omega))
          refine va_iald hx hb hK hP 6 0 rfl rfl h_11 dX9_buyCheapest_84 ?_
          refine lv_topi (fun x_12 e_12 => ?_)
          have h9 : x_12 = nI cq := by rw [e_12]; exact hcq.1
          subst h9
          refine lv_icmp_le (tgt := 89) hx hb dX9_buyCheapest_85 (by decide) (fun c_13 => ?_) (fun c_13 => ?_)
          · have hlec : cst (fun u => Pq (mu (stf 3) n i u)) b ≤ cq := (nI_leI (by omega) (by omega)).mp c_13
            refine lv_aload_n hx hb dX9_buyCheapest_89 rfl (lv_at hl 1 rfl) ?_
            refine va_get (D := (dC, dI)) (ci := 9) (v := Value.ref pb) (C := RX9) (T := TX9) (N := 14) hx hb hts inX9 hown hK hP 3 rfl rfl 5 (by decide) (hts _ (gw kw_160 rfl)) (fun _ h9 => h9) rfl dX9_buyCheapest_90 ?_
            refine lv_iload_n hx hb dX9_buyCheapest_93 rfl (lv_at hl 2 rfl) ?_
            refine lv_iconst (v := 0) hx hb dX9_buyCheapest_94 (by decide) ?_
            have h_14 : vp_in (nI i) 8 := by first | exact vp_in_nI (by omega) (by omega) | (unfold vp_in; decide) | (subst_vars; first | (unfold vp_in; decide) | exact vp_in_nI (by omega) (by omega))
            refine va_iast hx hb hK hP hD hS 2 0 rfl rfl h_14 dX9_buyCheapest_95 (fun H locs hP hD hS => ?_)
            obtain ⟨f_15, e_f_15⟩ : ∃ y : Nat → Int32, y = upd bf (nI i : Int32).toNatClampNeg 0 := ⟨_, rfl⟩
            have hpd9 : PDx (dC, dI) classes A H (wp [cA aC pp 8 fp, cA aC po 8 fo, cI aC pb 8 f_15, oX9 h1 po pp ps pa pe pb pv pk pu pw pq pt (nI (n - 1 - i)) (nI (sumr (frf (stf 3) n i Pq W0) 0 (n - 1 - i))), oX4 pv ek ef ew ep es (nI n) sy dn, cI aC ew 8 wf, cI aC es 5 stf, cI aC pu 7 uc, cI aC pw 7 vc, cI aC pq 128 u_6, cI aC pt 128 u_7] (va_pl L (plE aC g))) := by rw [e_f_15]; exact ⟨hP, hD⟩
            have hP := hpd9.1
            have hD := hpd9.2
            clear hpd9
            refine lv_iconst (v := 0) hx hb dX9_buyCheapest_96 (by decide) ?_
            refine lv_istore (lv' := [(4, Value.int 0), (3, Value.int (nI b)), (0, Value.ref h1), (1, Value.int (nI i)), (2, Value.int (nI (n - 1 - i)))]) hx hb dX9_buyCheapest_97 hl (by decide) rfl (fun ls hl => ?_)
            have lp_99 : ∀ (fu : Nat) (u : Nat) (bc : Nat → Int32) (gc : Nat → Nat → Int32) (hfu : n - 1 - i - u < fu) (hu8 : u ≤ n - 1 - i) (hbc : ∀ q, q < 32 → bt (bc i) q = mb (stf 3) n i b u q) (hgc : ∀ q, q < 8 → gc (ro i) q = nI (if mb (stf 3) n i b u q = true then Pq q else O q)) (hbf : ∀ q, q ≠ i → bc q = bf q) (hgf : ∀ a, a ≠ ro i → gc a = g a) (H : Heap) (locs : List Loc) (ls : Array Slot), va_P (dC, dI) classes (wp [cA aC pp 8 fp, cA aC po 8 fo, cI aC pb 8 bc, oX9 h1 po pp ps pa pe pb pv pk pu pw pq pt (nI (n - 1 - i)) (nI (sumr (frf (stf 3) n i Pq W0) 0 (n - 1 - i))), oX4 pv ek ef ew ep es (nI n) sy dn, cI aC ew 8 wf, cI aC es 5 stf, cI aC pu 7 uc, cI aC pw 7 vc, cI aC pq 128 u_6, cI aC pt 128 u_7] (va_pl L (plE aC gc))) H → va_D A (wp [cA aC pp 8 fp, cA aC po 8 fo, cI aC pb 8 bc, oX9 h1 po pp ps pa pe pb pv pk pu pw pq pt (nI (n - 1 - i)) (nI (sumr (frf (stf 3) n i Pq W0) 0 (n - 1 - i))), oX4 pv ek ef ew ep es (nI n) sy dn, cI aC ew 8 wf, cI aC es 5 stf, cI aC pu 7 uc, cI aC pw 7 vc, cI aC pq 128 u_6, cI aC pt 128 u_7] (va_pl L (plE aC gc))) → va_S A s.heap H locs → lv_has ls 6 [(0, Value.ref h1), (1, Value.int (nI i)), (3, Value.int (nI b)), (4, Value.int (nI u))] → W p l e (headSpec (wW yX9_buyCheapest cX9_buyCheapest 6 (none : Option FieldType)) ({ frames := 3, cells := 0, slots := 0, locals := 62 } : Room)).room s m ([Value.ref h1, Value.int (nI i)] : List Value).toArray below meth c H locs 0 0 (MQ below (va_Qv (fun (u : Int32 × Int32 × (Nat → Int32) × (Nat → Int32) × (Nat → Int32) × (Nat → Int32) × (Nat → Int32) × (Nat → Nat → Int32) × Int32) => match u with | (un2, fw2, ug, vg, qg, tg, bg, g2, rb) => BST (fun z => nd (stf 1) (sumr W0 i (n - i)) ≤ W0 i + sumr (frf (stf 3) n i Pq W0) 0 (n - 1 - i) + cst (uwf (stf 3) n i Pq W0) z) (cst (fun u => Pq (mu (stf 3) n i u))) (2 ^ (n - 1 - i)) rb ∧ (∀ b, b < 2 ^ (n - 1 - i) → rb = nI b → cst (fun u => Pq (mu (stf 3) n i u)) b ≤ cq → (∀ q, q < 32 → bt (bg i) q = mb (stf 3) n i b (n - 1 - i) q) ∧ ∀ q, q < 8 → g2 (ro i) q = nI (if q = i then O i - cst (fun u => Pq (mu (stf 3) n i u)) b else if mb (stf 3) n i b (n - 1 - i) q = true then Pq q else O q)) ∧ ((rb = -9 ∨ ∃ b, b < 2 ^ (n - 1 - i) ∧ rb = nI b ∧ cq < cst (fun u => Pq (mu (stf 3) n i u)) b) → bg i = bf i ∧ ∀ q, q < 8 → g2 (ro i) q = g (ro i) q) ∧ (∀ q, q ≠ i → bg q = bf q) ∧ ∀ a, a ≠ ro i → g2 a = g a) (fun (u : Int32 × Int32 × (Nat → Int32) × (Nat → Int32) × (Nat → Int32) × (Nat → Int32) × (Nat → Int32) × (Nat → Nat → Int32) × Int32) (t : State) => match u with | (un2, fw2, ug, vg, qg, tg, bg, g2, rb) => va_P (dC, dI) classes (wp [oX9 h1 po pp ps pa pe pb pv pk pu pw pq pt un2 fw2, oX4 pv ek ef ew ep es (nI n) sy dn, cI aC ew 8 wf, cI aC es 5 stf, cA aC pp 8 fp, cA aC po 8 fo, cI aC pb 8 bg, cI aC pu 7 ug, cI aC pw 7 vg, cI aC pq 128 qg, cI aC pt 128 tg] (va_pl L (plE aC g2))) t.heap ∧ va_K (dC, dI) classes (TY aC) t ∧ va_D A (wp [oX9 h1 po pp ps pa pe pb pv pk pu pw pq pt un2 fw2, oX4 pv ek ef ew ep es (nI n) sy dn, cI aC ew 8 wf, cI aC es 5 stf, cA aC pp 8 fp, cA aC po 8 fo, cI aC pb 8 bg, cI aC pu 7 ug, cI aC pw 7 vg, cI aC pq 128 qg, cI aC pt 128 tg] (va_pl L (plE aC g2)))) A) ([Value.ref h1, Value.int (nI i)] : List Value).toArray s 0 0 A) (F0 m 99 ls []) := by
              intro fu
              induction fu with
              | zero => intro u bc gc hfu; exact absurd hfu (Nat.not_lt_zero _)
              | succ fu ih_99 =>
                intro u bc gc hfu hu8 hbc hgc hbf hgf H locs ls hP hD hS hl
                refine lv_iload hx hb dX9_buyCheapest_99 (lv_at hl 3 rfl) ?_
                refine lv_aload_n hx hb dX9_buyCheapest_101 rfl (lv_at hl 0 rfl) ?_
                refine va_get (D := (dC, dI)) (ci := 9) (v := Value.int (nI (n - 1 - i))) (C := RX9) (T := TX9) (N := 14) hx hb hts inX9 hown hK hP 3 rfl rfl 12 (by decide) (hts _ (gw kw_169 rfl)) (fun _ h9 => h9) rfl dX9_buyCheapest_102 ?_
                refine lv_icmp_ge (tgt := 162) hx hb dX9_buyCheapest_105 (by decide) (fun c_16 => ?_) (fun c_16 => ?_)
                · have hue : u = (n - 1 - i) := by
                    rcases Nat.lt_or_ge u (n - 1 - i) with q | q
                    · exact absurd c_16 (nI_ge q (by omega))
                    · omega
                  have hOi := hO9 i
                  refine lv_aload_n hx hb dX9_buyCheapest_162 rfl (lv_at hl 0 rfl) ?_
                  refine va_get (D := (dC, dI)) (ci := 9) (v := Value.ref po) (C := RX9) (T := TX9) (N := 14) hx hb hts inX9 hown hK hP 3 rfl rfl 0 (by decide) (hts _ (gw kw_150 rfl)) (fun _ h9 => h9) rfl dX9_buyCheapest_163 ?_
                  refine lv_iload_n hx hb dX9_buyCheapest_166 rfl (lv_at hl 1 rfl) ?_
                  have h_17 : vp_in (nI i) 8 := by first | exact vp_in_nI (by omega) (by omega) | (unfold vp_in; decide) | (subst_vars; first | (unfold vp_in; decide) | exact vp_in_nI (by omega) (by omega))
                  refine va_alda (r := ro i) hx hb hK hP 1 rfl h_17 (by rw [nI_clamp (by omega)]; exact (hgr.1 i (by omega)).1.1) dX9_buyCheapest_167 ?_
                  refine lv_iload_n hx hb dX9_buyCheapest_168 rfl (lv_at hl 1 rfl) ?_
                  refine lv_dup2_11 hx hb dX9_buyCheapest_169 rfl rfl ?_
                  have h_18 : vp_in (nI i) 8 := by first | exact vp_in_nI (by omega) (by omega) | (unfold vp_in; decide) | (subst_vars; first | (unfold vp_in; decide) | exact vp_in_nI (by omega) (by omega))
                  refine pl_iald hx hb hK hP ((hgr.1 i (by omega)).1.2) h_18 dX9_buyCheapest_170 ?_
                  refine lv_topi (fun x_19 e_19 => ?_)
                  have h9 : x_19 = nI (O i) := by rw [e_19, nI_clamp (by omega), hgc i (by omega), mb_i (by omega)]; rfl
                  subst h9
                  refine lv_aload_n hx hb dX9_buyCheapest_171 rfl (lv_at hl 0 rfl) ?_
                  refine va_get (D := (dC, dI)) (ci := 9) (v := Value.ref pq) (C := RX9) (T := TX9) (N := 14) hx hb hts inX9 hown hK hP 3 rfl rfl 10 (by decide) (hts _ (gw kw_167 rfl)) (fun _ h9 => h9) rfl dX9_buyCheapest_172 ?_
                  refine lv_iload_n hx hb dX9_buyCheapest_175 rfl (lv_at hl 2 rfl) ?_
                  have h_20 : vp_in (nI b) 128 := vp_in_nI (by omega) (by omega)
                  refine va_iald hx hb hK hP 9 0 rfl rfl h_20 dX9_buyCheapest_176 ?_
                  refine lv_topi (fun x_21 e_21 => ?_)
                  have h9 : x_21 = nI (cst (fun u => Pq (mu (stf 3) n i u)) b) := by rw [e_21, nI_clamp (by omega)]; exact hqg b hb1
                  subst h9
                  refine lv_isub hx hb dX9_buyCheapest_177 ?_
                  refine lv_topi (fun x_22 e_22 => ?_)
                  have h9 : x_22 = nI (O i - cst (fun u => Pq (mu (stf 3) n i u)) b) := by rw [e_22]; exact pk_sub (by rw [hOc]; exact hlec)
                  subst h9
                  have h_23 : vp_in (nI i) 8 := by first | exact vp_in_nI (by omega) (by omega) | (unfold vp_in; decide) | (subst_vars; first | (unfold vp_in; decide) | exact vp_in_nI (by omega) (by omega))
                  refine pl_iast hx hb hK hP hD hS ((hgr.1 i (by omega)).1.2) h_23 dX9_buyCheapest_178 (fun H locs hP hD hS => ?_)
                  obtain ⟨g_24, e_g_24⟩ : ∃ y : Nat → Nat → Int32, y = va_up gc (ro i) (upd (gc (ro i)) (nI i : Int32).toNatClampNeg (nI (O i - cst (fun u => Pq (mu (stf 3) n i u)) b))) := ⟨_, rfl⟩
                  have hpd9 : PDx (dC, dI) classes A H (wp [cA aC pp 8 fp, cA aC po 8 fo, cI aC pb 8 bc, oX9 h1 po pp ps pa pe pb pv pk pu pw pq pt (nI (n - 1 - i)) (nI (sumr (frf (stf 3) n i Pq W0) 0 (n - 1 - i))), oX4 pv ek ef ew ep es (nI n) sy dn, cI aC ew 8 wf, cI aC es 5 stf, cI aC pu 7 uc, cI aC pw 7 vc, cI aC pq 128 u_6, cI aC pt 128 u_7] (va_pl L (plE aC g_24))) := by rw [e_g_24]; exact ⟨hP, hD⟩
                  have hP := hpd9.1
                  have hD := hpd9.2
                  clear hpd9
                  have hpd9 := pd_P (cx := [oX9 h1 po pp ps pa pe pb pv pk pu pw pq pt (nI (n - 1 - i)) (nI (sumr (frf (stf 3) n i Pq W0) 0 (n - 1 - i))), oX4 pv ek ef ew ep es (nI n) sy dn, cI aC ew 8 wf, cI aC es 5 stf, cA aC pp 8 fp, cA aC po 8 fo, cI aC pb 8 bc, cI aC pu 7 uc, cI aC pw 7 vc, cI aC pq 128 u_6, cI aC pt 128 u_7]) hP hD [3, 4, 5, 6, 0, 1, 2, 7, 8, 9, 10] (by decide) rfl
                  have hP9 := hpd9.1
                  have hD9 := hpd9.2
                  refine W.widen (k := 0) (n := 0) (by omega) (by omega) ?_
                  exact W.vret hx hb hr (fun t ht hW => ⟨⟨((nI (n - 1 - i)), (nI (sumr (frf (stf 3) n i Pq W0) 0 (n - 1 - i))), uc, vc, u_6, u_7, bc, g_24, (nI b)), rfl, ⟨Or.inr ⟨b, hb1, rfl, hb3, hb4⟩, fun b' q1 q2 q3 => by have h5 : b = b' := (nI_eq (by omega) (by omega)).mp q2; subst h5; exact ⟨fun q hq => by rw [hbc q hq, hue], fun q hq => by rw [e_g_24, nI_clamp (by omega), up_s]; by_cases e : q = i <;> first | (rw [e, pk_us, if_pos rfl]; done) | (rw [pk_un e, if_neg e, hgc q hq, hue])⟩, fun h => (bc_none (ct := cst (fun u => Pq (mu (stf 3) n i u))) (N := 2 ^ (n - 1 - i)) (cq := cq) (by omega) h hb1 rfl hlec).elim, hbf, fun a h => by rw [e_g_24, up_n h]; exact hgf a h⟩, by rw [ht]; exact hP9, va_K.moved hW.alike hK, hD9⟩, hS.F ht⟩) hS.2.2 dX9_buyCheapest_179
                · have hlu : u < (n - 1 - i) := by
                    rcases Nat.lt_or_ge u (n - 1 - i) with q | q
                    · exact q
                    · exact absurd (nI_le q (by omega)) c_16
                  have hmu := mu_in (fst := stf 3) (n := n) (i := i) (u := u) (by omega)
                  refine lv_iload_n hx hb dX9_buyCheapest_108 rfl (lv_at hl 2 rfl) ?_
                  refine lv_iload hx hb dX9_buyCheapest_109 (lv_at hl 3 rfl) ?_
                  refine lv_ishr hx hb dX9_buyCheapest_111 ?_
                  refine lv_topi (fun x_25 e_25 => ?_)
                  refine lv_iconst (v := 1) hx hb dX9_buyCheapest_112 (by decide) ?_
                  refine lv_iand hx hb dX9_buyCheapest_113 ?_
                  refine lv_topi (fun x_26 e_26 => ?_)
                  refine lv_iconst (v := 1) hx hb dX9_buyCheapest_114 (by decide) ?_
                  refine lv_icmp_ne (tgt := 156) hx hb dX9_buyCheapest_115 (by decide) (fun c_27 => ?_) (fun c_27 => ?_)
                  · have hbt : b.testBit u = false := by
                      rw [← b_get (by omega) (by omega)]
                      exact Bool.eq_false_iff.mpr (fun q => c_27 (by rw [e_26, e_25]; exact (b_tst (by omega)).mpr q))
                    have hn1 : ∀ q, q < 32 → bt (bc i) q = mb (stf 3) n i b (u + 1) q := fun q hq => by rw [hbc q hq, mb_s, hbt]; simp
                    have hn2 : ∀ q, q < 8 → gc (ro i) q = nI (if mb (stf 3) n i b (u + 1) q = true then Pq q else O q) := fun q hq => by rw [hgc q hq, mb_s, hbt]; simp
                    have hn3 := hbf
                    have hn4 := hgf
                    obtain ⟨x_28, e_28⟩ : ∃ y : Int32, y = (nI u) + 1 := ⟨_, rfl⟩
                    refine lv_iinc (v := x_28) (lv' := [(4, Value.int x_28), (0, Value.ref h1), (1, Value.int (nI i)), (3, Value.int (nI b))]) hx hb dX9_buyCheapest_156 hl (k := 3) rfl (by rw [e_28]; rfl) (by decide) rfl (fun ls hl => ?_)
                    have h9 : x_28 = nI (u + 1) := by rw [e_28, nI_1]
                    subst h9
                    refine lv_goto (tgt := 99) hx hb dX9_buyCheapest_159 (by decide) ?_
                    exact ih_99 (u + 1) bc gc (by omega) (by omega) (hn1) (hn2) (hn3) (hn4) _ _ _ (plP hP [0, 1, 2, 3, 4, 5, 6, 7, 8, 9, 10] rfl) (plD hD [0, 1, 2, 3, 4, 5, 6, 7, 8, 9, 10] (by decide) rfl) hS (lv_sub hl [1, 2, 3, 0] rfl)
                  · refine lv_aload_n hx hb dX9_buyCheapest_118 rfl (lv_at hl 0 rfl) ?_
                    refine lv_iload_n hx hb dX9_buyCheapest_119 rfl (lv_at hl 1 rfl) ?_
                    refine lv_iload hx hb dX9_buyCheapest_120 (lv_at hl 3 rfl) ?_
                    have hpd9 := pdf_N (cx := [oX9 h1 po pp ps pa pe pb pv pk pu pw pq pt (nI (n - 1 - i)) (nI (sumr (frf (stf 3) n i Pq W0) 0 (n - 1 - i))), oX4 pv ek ef ew ep es (nI n) sy dn, cI aC es 5 stf]) hP hD hS hA [3, 4, 6] (by decide) rfl
                    have hPc := hpd9.1
                    have hDc := hpd9.2.1
                    have hFc := hpd9.2.2
                    clear hpd9
                    refine va_calli (va_runV (As := [Value.int (nI i), Value.int (nI u)]) (rest := []) ⟨hx, hb, hml, hown, hts⟩ (c_X9_manOfUnit l dC dI aC H.size h1 po pp ps pa pe pb pv pk pu pw pq pt (nI (n - 1 - i)) (nI (sumr (frf (stf 3) n i Pq W0) 0 (n - 1 - i))) ek ef ew ep es n sy dn stf i u (by omega)) ⟨(callB_of 2 hts (gG kw_449) rfl rfl rfl (hts _ (gw kw_11 rfl)) (hts _ (gw kw_446 rfl)) hd_X9_manOfUnit ⟨Nat.le_of_ble_eq_true rfl, Nat.le_of_ble_eq_true rfl⟩), (hts _ (gw kw_448 rfl)), (hts _ (gw ks_12 rfl))⟩ ⟨fb_std, va_recv (q := (RX9, TX9, 14)) hK hPc (ci := 9) (q0 := 0) rfl rfl, pre_std hPc hK hDc hN⟩ rfl rfl hl.1 rfl (lv_room (Nat.le_of_ble_eq_true rfl)) dX9_buyCheapest_122 ⟨Nat.le_of_ble_eq_true rfl, Nat.le_of_ble_eq_true rfl⟩) hS (fun q _ h => hFc q h) hFc (fun x_29 u9 t9 H1 locs ht hvm hw_29 hB hz1 hk1 hS => ?_)
                    obtain ⟨hP1, hK1, hD1⟩ := hB
                    rw [ht] at hP1
                    clear hK1
                    try dsimp only at hw_29
                    have hpd9 : PDx (dC, dI) classes A H1 (wp [cA aC pp 8 fp, cA aC po 8 fo, cI aC pb 8 bc, cI aC ew 8 wf, cI aC pu 7 uc, cI aC pw 7 vc, cI aC pq 128 u_6, cI aC pt 128 u_7, oX9 h1 po pp ps pa pe pb pv pk pu pw pq pt (nI (n - 1 - i)) (nI (sumr (frf (stf 3) n i Pq W0) 0 (n - 1 - i))), oX4 pv ek ef ew ep es (nI n) sy dn, cI aC es 5 stf] (va_pl L (plE aC gc))) := jn_Q (wr := [cA aC pp 8 fp, cA aC po 8 fo, cI aC pb 8 bc, cI aC ew 8 wf, cI aC pu 7 uc, cI aC pw 7 vc, cI aC pq 128 u_6, cI aC pt 128 u_7]) hFc hk1 hP1 hD1 hP hD [3, 4, 6] [0, 1, 2, 5, 7, 8, 9, 10] rfl rfl (by decide) (by decide)
                    have hP := hpd9.1
                    have hD := hpd9.2
                    clear hpd9
                    generalize H1 = H at hP hS ⊢
                    clear hPc hDc hFc hz1 hk1 hP1 hD1 ht hvm
                    have h9 : x_29 = nI (mu (stf 3) n i u) := hw_29
                    subst h9
                    refine lv_istore (lv' := [(5, Value.int (nI (mu (stf 3) n i u))), (0, Value.ref h1), (1, Value.int (nI i)), (3, Value.int (nI b)), (4, Value.int (nI u))]) hx hb dX9_buyCheapest_125 hl (by decide) rfl (fun ls hl => ?_)
                    refine lv_aload_n hx hb dX9_buyCheapest_127 rfl (lv_at hl 1 rfl) ?_
                    refine va_get (D := (dC, dI)) (ci := 9) (v := Value.ref pb) (C := RX9) (T := TX9) (N := 14) hx hb hts inX9 hown hK hP 8 rfl rfl 5 (by decide) (hts _ (gw kw_160 rfl)) (fun _ h9 => h9) rfl dX9_buyCheapest_128 ?_
                    refine lv_iload_n hx hb dX9_buyCheapest_131 rfl (lv_at hl 2 rfl) ?_
                    refine lv_dup2_11 hx hb dX9_buyCheapest_132 rfl rfl ?_
                    have h_30 : vp_in (nI i) 8 := by first | exact vp_in_nI (by omega) (by omega) | (unfold vp_in; decide) | (subst_vars; first | (unfold vp_in; decide) | exact vp_in_nI (by omega) (by omega))
                    refine va_iald hx hb hK hP 2 0 rfl rfl h_30 dX9_buyCheapest_133 ?_
                    refine lv_topi (fun x_31 e_31 => ?_)
                    refine lv_iconst (v := 1) hx hb dX9_buyCheapest_134 (by decide) ?_
                    refine lv_iload hx hb dX9_buyCheapest_135 (lv_at hl 0 rfl) ?_
                    refine lv_ishl hx hb dX9_buyCheapest_137 ?_
                    refine lv_topi (fun x_32 e_32 => ?_)
                    refine lv_ior hx hb dX9_buyCheapest_138 ?_
                    refine lv_topi (fun x_33 e_33 => ?_)
                    have h_34 : vp_in (nI i) 8 := by first | exact vp_in_nI (by omega) (by omega) | (unfold vp_in; decide) | (subst_vars; first | (unfold vp_in; decide) | exact vp_in_nI (by omega) (by omega))
                    refine va_iast hx hb hK hP hD hS 2 0 rfl rfl h_34 dX9_buyCheapest_139 (fun H locs hP hD hS => ?_)
                    obtain ⟨f_35, e_f_35⟩ : ∃ y : Nat → Int32, y = upd bc (nI i : Int32).toNatClampNeg x_33 := ⟨_, rfl⟩
                    have hpd9 : PDx (dC, dI) classes A H (wp [cA aC pp 8 fp, cA aC po 8 fo, cI aC pb 8 f_35, cI aC ew 8 wf, cI aC pu 7 uc, cI aC pw 7 vc, cI aC pq 128 u_6, cI aC pt 128 u_7, oX9 h1 po pp ps pa pe pb pv pk pu pw pq pt (nI (n - 1 - i)) (nI (sumr (frf (stf 3) n i Pq W0) 0 (n - 1 - i))), oX4 pv ek ef ew ep es (nI n) sy dn, cI aC es 5 stf] (va_pl L (plE aC gc))) := by rw [e_f_35]; exact ⟨hP, hD⟩
                    have hP := hpd9.1
                    have hD := hpd9.2
                    clear hpd9
                    refine lv_aload_n hx hb dX9_buyCheapest_140 rfl (lv_at hl 1 rfl) ?_
                    refine va_get (D := (dC, dI)) (ci := 9) (v := Value.ref po) (C := RX9) (T := TX9) (N := 14) hx hb hts inX9 hown hK hP 8 rfl rfl 0 (by decide) (hts _ (gw kw_150 rfl)) (fun _ h9 => h9) rfl dX9_buyCheapest_141 ?_
                    refine lv_iload_n hx hb dX9_buyCheapest_144 rfl (lv_at hl 2 rfl) ?_
                    have h_36 : vp_in (nI i) 8 := by first | exact vp_in_nI (by omega) (by omega) | (unfold vp_in; decide) | (subst_vars; first | (unfold vp_in; decide) | exact vp_in_nI (by omega) (by omega))
                    refine va_alda (r := ro i) hx hb hK hP 1 rfl h_36 (by rw [nI_clamp (by omega)]; exact (hgr.1 i (by omega)).1.1) dX9_buyCheapest_145 ?_
                    refine lv_iload hx hb dX9_buyCheapest_146 (lv_at hl 0 rfl) ?_
                    refine lv_aload_n hx hb dX9_buyCheapest_148 rfl (lv_at hl 1 rfl) ?_
                    refine va_get (D := (dC, dI)) (ci := 9) (v := Value.ref pu) (C := RX9) (T := TX9) (N := 14) hx hb hts inX9 hown hK hP 8 rfl rfl 8 (by decide) (hts _ (gw kw_165 rfl)) (fun _ h9 => h9) rfl dX9_buyCheapest_149 ?_
                    refine lv_iload hx hb dX9_buyCheapest_152 (lv_at hl 4 rfl) ?_
                    have h_37 : vp_in (nI u) 7 := by first | exact vp_in_nI (by omega) (by omega) | (unfold vp_in; decide) | (subst_vars; first | (unfold vp_in; decide) | exact vp_in_nI (by omega) (by omega))
                    refine va_iald hx hb hK hP 4 0 rfl rfl h_37 dX9_buyCheapest_154 ?_
                    refine lv_topi (fun x_38 e_38 => ?_)
                    have h9 : x_38 = nI (Pq (mu (stf 3) n i u)) := by rw [e_38, nI_clamp (by omega)]; exact (hv1 u (by omega)).1
                    subst h9
                    have h_39 : vp_in (nI (mu (stf 3) n i u)) 8 := by first | exact vp_in_nI (by omega) (by omega) | (unfold vp_in; decide) | (subst_vars; first | (unfold vp_in; decide) | exact vp_in_nI (by omega) (by omega))
                    refine pl_iast hx hb hK hP hD hS ((hgr.1 i (by omega)).1.2) h_39 dX9_buyCheapest_155 (fun H locs hP hD hS => ?_)
                    obtain ⟨g_40, e_g_40⟩ : ∃ y : Nat → Nat → Int32, y = va_up gc (ro i) (upd (gc (ro i)) (nI (mu (stf 3) n i u) : Int32).toNatClampNeg (nI (Pq (mu (stf 3) n i u)))) := ⟨_, rfl⟩
                    have hpd9 : PDx (dC, dI) classes A H (wp [cA aC pp 8 fp, cA aC po 8 fo, cI aC pb 8 f_35, cI aC ew 8 wf, cI aC pu 7 uc, cI aC pw 7 vc, cI aC pq 128 u_6, cI aC pt 128 u_7, oX9 h1 po pp ps pa pe pb pv pk pu pw pq pt (nI (n - 1 - i)) (nI (sumr (frf (stf 3) n i Pq W0) 0 (n - 1 - i))), oX4 pv ek ef ew ep es (nI n) sy dn, cI aC es 5 stf] (va_pl L (plE aC g_40))) := by rw [e_g_40]; exact ⟨hP, hD⟩
                    have hP := hpd9.1
                    have hD := hpd9.2
                    clear hpd9
                    have hbt : b.testBit u = true := by
                      rw [← b_get (by omega) (by omega)]
                      exact (b_tst (by omega)).mp (by rw [← e_25, ← e_26]; exact c_27)
                    have hn1 : ∀ q, q < 32 → bt (f_35 i) q = mb (stf 3) n i b (u + 1) q := fun q hq => by
                      rw [e_f_35, nI_clamp (by omega), pk_us, e_33, e_32, b_or, e_31, nI_clamp (by omega), hbc q hq, b_one _ (by omega) q hq, mb_s, hbt, Bool.true_and]
                      congr 1
                      exact decide_eq_decide.mpr ⟨fun h => h.symm, fun h => h.symm⟩
                    have hn2 : ∀ q, q < 8 → g_40 (ro i) q = nI (if mb (stf 3) n i b (u + 1) q = true then Pq q else O q) := fun q hq => by
                      rw [e_g_40, nI_clamp (by omega), up_s, mb_s, hbt, Bool.true_and]
                      by_cases e : q = mu (stf 3) n i u
                      · rw [e, pk_us, decide_eq_true (p := mu (stf 3) n i u = mu (stf 3) n i u) rfl, Bool.or_true, if_pos rfl]
                      · rw [pk_un e, decide_eq_false (fun h => e h.symm), Bool.or_false]; exact hgc q hq
                    have hn3 : ∀ q, q ≠ i → f_35 q = bf q := fun q h => by rw [e_f_35, nI_clamp (by omega), pk_un h]; exact hbf q h
                    have hn4 : ∀ a, a ≠ ro i → g_40 a = g a := fun a h => by rw [e_g_40, up_n h]; exact hgf a h
                    obtain ⟨x_41, e_41⟩ : ∃ y : Int32, y = (nI u) + 1 := ⟨_, rfl⟩
                    refine lv_iinc (v := x_41) (lv' := [(4, Value.int x_41), (5, Value.int (nI (mu (stf 3) n i u))), (0, Value.ref h1), (1, Value.int (nI i)), (3, Value.int (nI b))]) hx hb dX9_buyCheapest_156 hl (k := 4) rfl (by rw [e_41]; rfl) (by decide) rfl (fun ls hl => ?_)
                    have h9 : x_41 = nI (u + 1) := by rw [e_41, nI_1]
                    subst h9
                    refine lv_goto (tgt := 99) hx hb dX9_buyCheapest_159 (by decide) ?_
                    exact ih_99 (u + 1) f_35 g_40 (by omega) (by omega) (hn1) (hn2) (hn3) (hn4) _ _ _ (plP hP [0, 1, 2, 8, 9, 3, 10, 4, 5, 6, 7] rfl) (plD hD [0, 1, 2, 8, 9, 3, 10, 4, 5, 6, 7] (by decide) rfl) hS (lv_sub hl [2, 3, 4, 0] rfl)
            exact lp_99 ((n - 1 - i - 0) + 1) 0 f_15 g (Nat.lt_succ_self _) (Nat.zero_le _) (fun q hq => by rw [e_f_15, nI_clamp (by omega), pk_us, b_0]; rfl) (fun q hq => by rw [hO q hq]; rfl) (fun q h => by rw [e_f_15, nI_clamp (by omega), pk_un h]) (fun a _ => rfl) _ _ _ (plP hP [0, 1, 2, 3, 4, 5, 6, 7, 8, 9, 10] rfl) (plD hD [0, 1, 2, 3, 4, 5, 6, 7, 8, 9, 10] (by decide) rfl) hS (lv_sub hl [2, 3, 1, 0] rfl)
          · have hpd9 := pd_P (cx := [oX9 h1 po pp ps pa pe pb pv pk pu pw pq pt (nI (n - 1 - i)) (nI (sumr (frf (stf 3) n i Pq W0) 0 (n - 1 - i))), oX4 pv ek ef ew ep es (nI n) sy dn, cI aC ew 8 wf, cI aC es 5 stf, cA aC pp 8 fp, cA aC po 8 fo, cI aC pb 8 bf, cI aC pu 7 uc, cI aC pw 7 vc, cI aC pq 128 u_6, cI aC pt 128 u_7]) hP hD [3, 4, 5, 6, 0, 1, 2, 7, 8, 9, 10] (by decide) rfl
            have hP9 := hpd9.1
            have hD9 := hpd9.2
            refine W.widen (k := 0) (n := 0) (by omega) (by omega) ?_
            exact W.vret hx hb hr (fun t ht hW => ⟨⟨((nI (n - 1 - i)), (nI (sumr (frf (stf 3) n i Pq W0) 0 (n - 1 - i))), uc, vc, u_6, u_7, bf, g, (nI b)), rfl, ⟨Or.inr ⟨b, hb1, rfl, hb3, hb4⟩, fun b' q1 q2 q3 => (bc_none (ct := cst (fun u => Pq (mu (stf 3) n i u))) (N := 2 ^ (n - 1 - i)) (cq := cq) (by omega) (Or.inr ⟨b, hb1, rfl, by rcases Nat.lt_or_ge cq (cst (fun u => Pq (mu (stf 3) n i u)) b) with q | q <;> first | exact q | exact absurd ((nI_leI (by omega) (by omega)).mpr q) c_13⟩) q1 q2 q3).elim, fun _ => ⟨rfl, fun q hq => rfl⟩, fun q _ => rfl, fun a _ => rfl⟩, by rw [ht]; exact hP9, va_K.moved hW.alike hK, hD9⟩, hS.F ht⟩) hS.2.2 dX9_buyCheapest_88
      · have hlu : u < n - 1 - i := by
          rcases Nat.lt_or_ge u (n - 1 - i) with q | q
          · exact q
          · exact absurd (nI_le q (by omega)) c_4
        have hmu := mu_in (fst := stf 3) (n := n) (i := i) (u := u) (by omega)
        obtain ⟨hp1, hp2⟩ := hPq _ hmu.1 hmu.2
        obtain ⟨hw1, hw2⟩ := hw.2 _ hmu.2
        refine lv_aload_n hx hb dX9_buyCheapest_23 rfl (lv_at hl 0 rfl) ?_
        refine lv_iload_n hx hb dX9_buyCheapest_24 rfl (lv_at hl 1 rfl) ?_
        refine lv_iload_n hx hb dX9_buyCheapest_25 rfl (lv_at hl 3 rfl) ?_
        have hpd9 := pdf_N (cx := [oX9 h1 po pp ps pa pe pb pv pk pu pw pq pt (nI u) (nI (sumr (frf (stf 3) n i Pq W0) 0 u)), oX4 pv ek ef ew ep es (nI n) sy dn, cI aC es 5 stf]) hP hD hS hA [10, 0, 2] (by decide) rfl
        have hPc := hpd9.1
        have hDc := hpd9.2.1
        have hFc := hpd9.2.2
        clear hpd9
        refine va_calli (va_runV (As := [Value.int (nI i), Value.int (nI u)]) (rest := []) ⟨hx, hb, hml, hown, hts⟩ (c_X9_manOfUnit l dC dI aC H.size h1 po pp ps pa pe pb pv pk pu pw pq pt (nI u) (nI (sumr (frf (stf 3) n i Pq W0) 0 u)) ek ef ew ep es n sy dn stf i u (by omega)) ⟨(callB_of 2 hts (gG kw_449) rfl rfl rfl (hts _ (gw kw_11 rfl)) (hts _ (gw kw_446 rfl)) hd_X9_manOfUnit ⟨Nat.le_of_ble_eq_true rfl, Nat.le_of_ble_eq_true rfl⟩), (hts _ (gw kw_448 rfl)), (hts _ (gw ks_12 rfl))⟩ ⟨fb_std, va_recv (q := (RX9, TX9, 14)) hK hPc (ci := 9) (q0 := 0) rfl rfl, pre_std hPc hK hDc hN⟩ rfl rfl hl.1 rfl (lv_room (Nat.le_of_ble_eq_true rfl)) dX9_buyCheapest_26 ⟨Nat.le_of_ble_eq_true rfl, Nat.le_of_ble_eq_true rfl⟩) hS (fun q _ h => hFc q h) hFc (fun x_42 u9 t9 H1 locs ht hvm hw_42 hB hz1 hk1 hS => ?_)
        obtain ⟨hP1, hK1, hD1⟩ := hB
        rw [ht] at hP1
        clear hK1
        try dsimp only at hw_42
        have hpd9 : PDx (dC, dI) classes A H1 (wp [cI aC ew 8 wf, cA aC pp 8 fp, cA aC po 8 fo, cI aC pb 8 bf, cI aC pu 7 uc, cI aC pw 7 vc, cI aC pq 128 qf, cI aC pt 128 tf, oX9 h1 po pp ps pa pe pb pv pk pu pw pq pt (nI u) (nI (sumr (frf (stf 3) n i Pq W0) 0 u)), oX4 pv ek ef ew ep es (nI n) sy dn, cI aC es 5 stf] (va_pl L (plE aC g))) := jn_Q (wr := [cI aC ew 8 wf, cA aC pp 8 fp, cA aC po 8 fo, cI aC pb 8 bf, cI aC pu 7 uc, cI aC pw 7 vc, cI aC pq 128 qf, cI aC pt 128 tf]) hFc hk1 hP1 hD1 hP hD [10, 0, 2] [1, 3, 4, 5, 6, 7, 8, 9] rfl rfl (by decide) (by decide)
        have hP := hpd9.1
        have hD := hpd9.2
        clear hpd9
        generalize H1 = H at hP hS ⊢
        clear hPc hDc hFc hz1 hk1 hP1 hD1 ht hvm
        have h9 : x_42 = nI (mu (stf 3) n i u) := hw_42
        subst h9
        refine lv_istore (lv' := [(4, Value.int (nI (mu (stf 3) n i u))), (0, Value.ref h1), (1, Value.int (nI i)), (2, Value.int (nI (n - 1 - i))), (3, Value.int (nI u))]) hx hb dX9_buyCheapest_29 hl (by decide) rfl (fun ls hl => ?_)
        refine lv_aload_n hx hb dX9_buyCheapest_31 rfl (lv_at hl 1 rfl) ?_
        refine lv_aload_n hx hb dX9_buyCheapest_32 rfl (lv_at hl 1 rfl) ?_
        refine va_get (D := (dC, dI)) (ci := 9) (v := Value.ref pp) (C := RX9) (T := TX9) (N := 14) hx hb hts inX9 hown hK hP 8 rfl rfl 1 (by decide) (hts _ (gw kw_152 rfl)) (fun _ h9 => h9) rfl dX9_buyCheapest_33 ?_
        refine lv_iload_n hx hb dX9_buyCheapest_36 rfl (lv_at hl 2 rfl) ?_
        have h_43 : vp_in (nI i) 8 := by first | exact vp_in_nI (by omega) (by omega) | (unfold vp_in; decide) | (subst_vars; first | (unfold vp_in; decide) | exact vp_in_nI (by omega) (by omega))
        refine va_alda (r := rp i) hx hb hK hP 1 rfl h_43 (by rw [nI_clamp (by omega)]; exact (hgr.1 i (by omega)).2.1.1) dX9_buyCheapest_37 ?_
        refine lv_iload hx hb dX9_buyCheapest_38 (lv_at hl 0 rfl) ?_
        have h_44 : vp_in (nI (mu (stf 3) n i u)) 8 := by first | exact vp_in_nI (by omega) (by omega) | (unfold vp_in; decide) | (subst_vars; first | (unfold vp_in; decide) | exact vp_in_nI (by omega) (by omega))
        refine pl_iald hx hb hK hP ((hgr.1 i (by omega)).2.1.2) h_44 dX9_buyCheapest_40 ?_
        refine lv_topi (fun x_45 e_45 => ?_)
        have h9 : x_45 = nI (Pq (mu (stf 3) n i u)) := by rw [e_45, nI_clamp (by omega)]; exact hp1
        subst h9
        refine lv_aload_n hx hb dX9_buyCheapest_41 rfl (lv_at hl 1 rfl) ?_
        refine va_get (D := (dC, dI)) (ci := 9) (v := Value.ref pv) (C := RX9) (T := TX9) (N := 14) hx hb hts inX9 hown hK hP 8 rfl rfl 6 (by decide) (hts _ (gw kw_162 rfl)) (fun _ h9 => h9) rfl dX9_buyCheapest_42 ?_
        refine va_get (D := (dC, dI)) (ci := 4) (v := Value.ref ew) (C := RX4) (T := TX4) (N := 8) hx hb hts inX4 hown hK hP 9 rfl rfl 2 (by decide) (hts _ (gw kw_40 rfl)) (fun _ h9 => h9) rfl dX9_buyCheapest_45 ?_
        refine lv_iload hx hb dX9_buyCheapest_48 (lv_at hl 0 rfl) ?_
        have h_46 : vp_in (nI (mu (stf 3) n i u)) 8 := by first | exact vp_in_nI (by omega) (by omega) | (unfold vp_in; decide) | (subst_vars; first | (unfold vp_in; decide) | exact vp_in_nI (by omega) (by omega))
        refine va_iald hx hb hK hP 0 0 rfl rfl h_46 dX9_buyCheapest_50 ?_
        refine lv_topi (fun x_47 e_47 => ?_)
        have h9 : x_47 = nI (W0 (mu (stf 3) n i u)) := by rw [e_47, nI_clamp (by omega)]; exact hw1
        subst h9
        have hpd9 := pdf_N (cx := [oX9 h1 po pp ps pa pe pb pv pk pu pw pq pt (nI u) (nI (sumr (frf (stf 3) n i Pq W0) 0 u)), cI aC pu 7 uc, cI aC pw 7 vc]) hP hD hS hA [8, 4, 5] (by decide) rfl
        have hPc := hpd9.1
        have hDc := hpd9.2.1
        have hFc := hpd9.2.2
        clear hpd9
        refine va_callv (va_runV (As := [Value.int (nI (Pq (mu (stf 3) n i u))), Value.int (nI (W0 (mu (stf 3) n i u)))]) (rest := []) ⟨hx, hb, hml, hown, hts⟩ (c_X9_addUnit l dC dI aC H.size h1 po pp ps pa pe pb pv pk pu pw pq pt u (sumr (frf (stf 3) n i Pq W0) 0 u) (Pq (mu (stf 3) n i u)) (W0 (mu (stf 3) n i u)) uc vc (by omega) (by omega) (by omega)) ⟨(callB_of 2 hts (gG kw_453) rfl rfl rfl (hts _ (gw kw_11 rfl)) (hts _ (gw kw_450 rfl)) hd_X9_addUnit ⟨Nat.le_of_ble_eq_true rfl, Nat.le_of_ble_eq_true rfl⟩), (hts _ (gw kw_452 rfl)), (hts _ (gw ks_13 rfl))⟩ ⟨fb_std, va_recv (q := (RX9, TX9, 14)) hK hPc (ci := 9) (q0 := 0) rfl rfl, pre_std hPc hK hDc hN⟩ rfl rfl hl.1 rfl (lv_room (Nat.le_of_ble_eq_true rfl)) dX9_buyCheapest_51 ⟨Nat.le_of_ble_eq_true rfl, Nat.le_of_ble_eq_true rfl⟩) hS (fun q _ h => hFc q h) hFc (fun u9 t9 H1 locs ht hvm hw_48 hB hz1 hk1 hS => ?_)
        obtain ⟨u_49, u_50⟩ := u9
        obtain ⟨hP1, hK1, hD1⟩ := hB
        rw [ht] at hP1
        clear hK1
        try dsimp only at hw_48
        have hpd9 : PDx (dC, dI) classes A H1 (wp [cI aC ew 8 wf, cA aC pp 8 fp, cA aC po 8 fo, cI aC pb 8 bf, cI aC pq 128 qf, cI aC pt 128 tf, oX4 pv ek ef ew ep es (nI n) sy dn, cI aC es 5 stf, oX9 h1 po pp ps pa pe pb pv pk pu pw pq pt (nI (u + 1)) (nI ((sumr (frf (stf 3) n i Pq W0) 0 u) + (if 0 < (Pq (mu (stf 3) n i u)) then 0 else (W0 (mu (stf 3) n i u))))), cI aC pu 7 u_49, cI aC pw 7 u_50] (va_pl L (plE aC g))) := jn_Q (wr := [cI aC ew 8 wf, cA aC pp 8 fp, cA aC po 8 fo, cI aC pb 8 bf, cI aC pq 128 qf, cI aC pt 128 tf, oX4 pv ek ef ew ep es (nI n) sy dn, cI aC es 5 stf]) hFc hk1 hP1 hD1 hP hD [8, 4, 5] [0, 1, 2, 3, 6, 7, 9, 10] rfl rfl (by decide) (by decide)
        have hP := hpd9.1
        have hD := hpd9.2
        clear hpd9
        generalize H1 = H at hP hS ⊢
        clear hPc hDc hFc hz1 hk1 hP1 hD1 ht hvm
        obtain ⟨ha1, ha2, ha3, ha4⟩ := hw_48
        have hb1 : ∀ v, v < u + 1 → u_49 v = nI (Pq (mu (stf 3) n i v)) ∧ u_50 v = nI (uwf (stf 3) n i Pq W0 v) := fun v hv => by
          by_cases e : v = u
          · rw [e, ha1, ha3]; exact ⟨rfl, rfl⟩
          · rw [ha2 v e, ha4 v e]; exact hv1 v (by omega)
        have h9 : nI ((sumr (frf (stf 3) n i Pq W0) 0 u) + (if 0 < (Pq (mu (stf 3) n i u)) then 0 else (W0 (mu (stf 3) n i u)))) = nI (sumr (frf (stf 3) n i Pq W0) 0 (u + 1)) := by show _ = nI (sumr (frf (stf 3) n i Pq W0) 0 u + frf (stf 3) n i Pq W0 (0 + u)); rw [Nat.zero_add]; rfl
        rw [h9] at hP hD
        obtain ⟨x_51, e_51⟩ : ∃ y : Int32, y = (nI u) + 1 := ⟨_, rfl⟩
        refine lv_iinc (v := x_51) (lv' := [(3, Value.int x_51), (4, Value.int (nI (mu (stf 3) n i u))), (0, Value.ref h1), (1, Value.int (nI i)), (2, Value.int (nI (n - 1 - i)))]) hx hb dX9_buyCheapest_54 hl (k := 4) rfl (by rw [e_51]; rfl) (by decide) rfl (fun ls hl => ?_)
        have h9 : x_51 = nI (u + 1) := by rw [e_51, nI_1]
        subst h9
        refine lv_goto (tgt := 18) hx hb dX9_buyCheapest_57 (by decide) ?_
        exact ih_18 (u + 1) u_49 u_50 (by omega) (by omega) (hb1) _ _ _ (plP hP [6, 0, 7, 1, 2, 3, 9, 10, 4, 5, 8] rfl) (plD hD [6, 0, 7, 1, 2, 3, 9, 10, 4, 5, 8] (by decide) rfl) hS (lv_sub hl [2, 3, 4, 0] rfl)
  exact lp_18 ((n - 1 - i - 0) + 1) 0 uf vf (Nat.lt_succ_self _) (Nat.zero_le _) (fun v h => by omega) _ _ _ (plP hP [0, 1, 2, 3, 4, 5, 6, 7, 8, 9, 10] rfl) (plD hD [0, 1, 2, 3, 4, 5, 6, 7, 8, 9, 10] (by decide) rfl) hS (lv_sub hl [2, 3, 1, 0] rfl)

end

