set_option maxHeartbeats 1000000 in
set_option maxRecDepth 100000 in
/-- X9_vote -/
theorem c_X9_vote (l : Launch) (dC : Nat → ClassId) (dI : Nat → Nat → Nat) (aC : Nat → ClassId) (sz : Nat) (h1 : Nat) (po : Nat) (pp : Nat) (ps : Nat) (pa : Nat) (pe : Nat) (pb : Nat) (pv : Nat) (pk : Nat) (pu : Nat) (pw : Nat) (pq : Nat) (pt : Nat) (un : Int32) (fw : Int32) (ek : Nat) (ef : Nat) (ew : Nat) (ep : Nat) (es : Nat) (n : Nat) (sy : Int32) (dn : Int32) (L : List Nat) (g : Nat → Nat → Int32) (fo : Nat → Option Nat) (fp : Nat → Option Nat) (fs : Nat → Option Nat) (ro : Nat → Nat) (rp : Nat → Nat) (rs : Nat → Nat) (yf : Nat → Int32) (i : Nat) (O : Nat → Nat) (Pq : Nat → Nat) (hgr : GRD L fo fp fs ro rp rs) (hi : i < n ∧ n ≤ 8) (hO : ∀ q, q < 8 → g (ro i) q = nI (O q) ∧ O q ≤ 1000) (hPq : ∀ q, i < q → q < n → g (rp i) q = nI (Pq q) ∧ Pq q ≤ 1000) : Met l yX9_vote (wW yX9_vote cX9_vote 3 (none : Option FieldType)) ({ frames := 0, cells := 0, slots := 0, locals := 0 } : Room) (va_Pc [Value.ref h1, Value.int (nI i)] (fun U => U.heap.size = sz ∧ va_P (dC, dI) classes (wp [oX9 h1 po pp ps pa pe pb pv pk pu pw pq pt un fw, oX4 pv ek ef ew ep es (nI n) sy dn, cI aC pa 8 yf, cA aC po 8 fo, cA aC pp 8 fp] (va_pl L (plE aC g))) U.heap ∧ va_K (dC, dI) classes (TY aC) U ∧ va_D (fun _ => True) (wp [oX9 h1 po pp ps pa pe pb pv pk pu pw pq pt un fw, oX4 pv ek ef ew ep es (nI n) sy dn, cI aC pa 8 yf, cA aC po 8 fo, cA aC pp 8 fp] (va_pl L (plE aC g))) ∧ NX U)) (va_Qv (fun (yg : Nat → Int32) => (∀ b, b < 32 → bt (yg i) b = decide (b = i ∨ (i < b ∧ b < n ∧ Pq b ≤ O b))) ∧ ∀ q, q ≠ i → yg q = yf q) (fun (yg : Nat → Int32) (t : State) => va_P (dC, dI) classes (wp [oX9 h1 po pp ps pa pe pb pv pk pu pw pq pt un fw, oX4 pv ek ef ew ep es (nI n) sy dn, cI aC pa 8 yg, cA aC po 8 fo, cA aC pp 8 fp] (va_pl L (plE aC g))) t.heap ∧ va_K (dC, dI) classes (TY aC) t ∧ va_D (va_A (wp [oX9 h1 po pp ps pa pe pb pv pk pu pw pq pt un fw, oX4 pv ek ef ew ep es (nI n) sy dn, cI aC pa 8 yf, cA aC po 8 fo, cA aC pp 8 fp] (va_pl L (plE aC g))) sz) (wp [oX9 h1 po pp ps pa pe pb pv pk pu pw pq pt un fw, oX4 pv ek ef ew ep es (nI n) sy dn, cI aC pa 8 yg, cA aC po 8 fo, cA aC pp 8 fp] (va_pl L (plE aC g)))) (va_A (wp [oX9 h1 po pp ps pa pe pb pv pk pu pw pq pt un fw, oX4 pv ek ef ew ep es (nI n) sy dn, cI aC pa 8 yf, cA aC po 8 fo, cA aC pp 8 fp] (va_pl L (plE aC g))) sz)) 0 0 (va_A (wp [oX9 h1 po pp ps pa pe pb pv pk pu pw pq pt un fw, oX4 pv ek ef ew ep es (nI n) sy dn, cI aC pa 8 yf, cA aC po 8 fo, cA aC pp 8 fp] (va_pl L (plE aC g))) sz) := by
  refine Met.ofW (cc := cX9_vote) (maxL := 3) (ret := (none : Option FieldType)) (by decide) rfl ?_
  intro p e s m args below meth c s₁ B hml hv
  obtain ⟨rfl, hsz, hP, hK, hD0, hN⟩ := hv
  have hx := B.exec
  have hb := B.bytes
  have hr := B.returns
  have hts0 := atoms_spec (ws := (wW yX9_vote cX9_vote 3 (none : Option FieldType))) B.pre
  have hts : ∀ w9 ∈ lw_G, w9.before ([Value.ref h1, Value.int (nI i)] : List Value).toArray s = true := fun w9 h9 => hts0 w9 (List.mem_cons_of_mem _ h9)
  have hown : s.vm.findClass RX9 = some m.cls := findClass_of_methodNamed (x := yX9_vote) B.named
  have hlocks := B.notSynchronized
  subst hsz
  have hD := hD0.self (sz := s.heap.size)
  generalize hAe : va_A (wp [oX9 h1 po pp ps pa pe pb pv pk pu pw pq pt un fw, oX4 pv ek ef ew ep es (nI n) sy dn, cI aC pa 8 yf, cA aC po 8 fo, cA aC pp 8 fp] (va_pl L (plE aC g))) s.heap.size = A at hD ⊢
  have hA : ∀ q : Nat, s.heap.size ≤ q → A q := fun q h => by rw [← hAe]; exact Or.inr h
  obtain ⟨H, hHe⟩ : ∃ H : Heap, H = s.heap := ⟨_, rfl⟩
  have hS : va_S A s.heap H [] := by rw [hHe]; exact va_S.rf
  have hP : va_P (dC, dI) classes (wp [oX9 h1 po pp ps pa pe pb pv pk pu pw pq pt un fw, oX4 pv ek ef ew ep es (nI n) sy dn, cI aC pa 8 yf, cA aC po 8 fo, cA aC pp 8 fp] (va_pl L (plE aC g))) H := by rw [hHe]; exact hP
  have hl := lv_entry ([Value.ref h1, Value.int (nI i)]) (n := 3) (Nat.le_of_ble_eq_true rfl)
  rw [lg_entry_eq]
  generalize (lg_sl ([Value.ref h1, Value.int (nI i)]) ++ List.replicate (3 - (lg_sl ([Value.ref h1, Value.int (nI i)])).length) Slot.unset).toArray = ls at hl ⊢
  have hl : lv_has ls 3 [(0, Value.ref h1), (1, Value.int (nI i))] := hl
  rw [← hHe]
  refine lv_aload_n hx hb dX9_vote_0 rfl (lv_at hl 0 rfl) ?_
  refine va_get (D := (dC, dI)) (ci := 9) (v := Value.ref pa) (C := RX9) (T := TX9) (N := 14) hx hb hts inX9 hown hK hP 0 rfl rfl 3 (by decide) (hts _ (gw kw_156 rfl)) (fun _ h9 => h9) rfl dX9_vote_1 ?_
  refine lv_iload_n hx hb dX9_vote_4 rfl (lv_at hl 1 rfl) ?_
  refine lv_iconst (v := 1) hx hb dX9_vote_5 (by decide) ?_
  refine lv_iload_n hx hb dX9_vote_6 rfl (lv_at hl 1 rfl) ?_
  refine lv_ishl hx hb dX9_vote_7 ?_
  refine lv_topi (fun x_1 e_1 => ?_)
  have h_2 : vp_in (nI i) 8 := by first | exact vp_in_nI (by omega) (by omega) | (unfold vp_in; decide) | (subst_vars; first | (unfold vp_in; decide) | exact vp_in_nI (by omega) (by omega))
  refine va_iast hx hb hK hP hD hS 2 0 rfl rfl h_2 dX9_vote_8 (fun H locs hP hD hS => ?_)
  obtain ⟨f_3, e_f_3⟩ : ∃ y : Nat → Int32, y = upd yf (nI i : Int32).toNatClampNeg x_1 := ⟨_, rfl⟩
  have hpd9 : PDx (dC, dI) classes A H (wp [oX9 h1 po pp ps pa pe pb pv pk pu pw pq pt un fw, oX4 pv ek ef ew ep es (nI n) sy dn, cI aC pa 8 f_3, cA aC po 8 fo, cA aC pp 8 fp] (va_pl L (plE aC g))) := by rw [e_f_3]; exact ⟨hP, hD⟩
  have hP := hpd9.1
  have hD := hpd9.2
  clear hpd9
  refine lv_iload_n hx hb dX9_vote_9 rfl (lv_at hl 1 rfl) ?_
  refine lv_iconst (v := 1) hx hb dX9_vote_10 (by decide) ?_
  refine lv_iadd hx hb dX9_vote_11 ?_
  refine lv_topi (fun x_4 e_4 => ?_)
  refine lv_istore_n (lv' := [(2, Value.int x_4), (0, Value.ref h1), (1, Value.int (nI i))]) hx hb dX9_vote_12 rfl hl (by decide) rfl (fun ls hl => ?_)
  have h9 : x_4 = nI (i + 1) := by rw [e_4, nI_1]
  subst h9
  have hy10 := vt_0 (y := f_3 i) (n := n) (P := Pq) (O := O) (i := i) (by omega) (by rw [e_f_3, nI_clamp (by omega), pk_us]; exact e_1)
  have hy20 : ∀ q, q ≠ i → f_3 q = yf q := fun q h => by rw [e_f_3, nI_clamp (by omega), pk_un h]
  have lp_13 : ∀ (fu : Nat) (j : Nat) (yc : Nat → Int32) (hfu : n - j < fu) (hj : i < j ∧ j ≤ n) (hy1 : ∀ b, b < 32 → bt (yc i) b = decide (b = i ∨ (i < b ∧ b < j ∧ Pq b ≤ O b))) (hy2 : ∀ q, q ≠ i → yc q = yf q) (H : Heap) (locs : List Loc) (ls : Array Slot), va_P (dC, dI) classes (wp [oX9 h1 po pp ps pa pe pb pv pk pu pw pq pt un fw, oX4 pv ek ef ew ep es (nI n) sy dn, cI aC pa 8 yc, cA aC po 8 fo, cA aC pp 8 fp] (va_pl L (plE aC g))) H → va_D A (wp [oX9 h1 po pp ps pa pe pb pv pk pu pw pq pt un fw, oX4 pv ek ef ew ep es (nI n) sy dn, cI aC pa 8 yc, cA aC po 8 fo, cA aC pp 8 fp] (va_pl L (plE aC g))) → va_S A s.heap H locs → lv_has ls 3 [(0, Value.ref h1), (1, Value.int (nI i)), (2, Value.int (nI j))] → W p l e (headSpec (wW yX9_vote cX9_vote 3 (none : Option FieldType)) ({ frames := 0, cells := 0, slots := 0, locals := 0 } : Room)).room s m ([Value.ref h1, Value.int (nI i)] : List Value).toArray below meth c H locs 0 0 (MQ below (va_Qv (fun (yg : Nat → Int32) => (∀ b, b < 32 → bt (yg i) b = decide (b = i ∨ (i < b ∧ b < n ∧ Pq b ≤ O b))) ∧ ∀ q, q ≠ i → yg q = yf q) (fun (yg : Nat → Int32) (t : State) => va_P (dC, dI) classes (wp [oX9 h1 po pp ps pa pe pb pv pk pu pw pq pt un fw, oX4 pv ek ef ew ep es (nI n) sy dn, cI aC pa 8 yg, cA aC po 8 fo, cA aC pp 8 fp] (va_pl L (plE aC g))) t.heap ∧ va_K (dC, dI) classes (TY aC) t ∧ va_D A (wp [oX9 h1 po pp ps pa pe pb pv pk pu pw pq pt un fw, oX4 pv ek ef ew ep es (nI n) sy dn, cI aC pa 8 yg, cA aC po 8 fo, cA aC pp 8 fp] (va_pl L (plE aC g)))) A) ([Value.ref h1, Value.int (nI i)] : List Value).toArray s 0 0 A) (F0 m 13 ls []) := by
    intro fu
    induction fu with
    | zero => intro j yc hfu; exact absurd hfu (Nat.not_lt_zero _)
    | succ fu ih_13 =>
      intro j yc hfu hj hy1 hy2 H locs ls hP hD hS hl
      refine lv_iload_n hx hb dX9_vote_13 rfl (lv_at hl 2 rfl) ?_
      refine lv_aload_n hx hb dX9_vote_14 rfl (lv_at hl 0 rfl) ?_
      refine va_get (D := (dC, dI)) (ci := 9) (v := Value.ref pv) (C := RX9) (T := TX9) (N := 14) hx hb hts inX9 hown hK hP 0 rfl rfl 6 (by decide) (hts _ (gw kw_162 rfl)) (fun _ h9 => h9) rfl dX9_vote_15 ?_
      refine va_get (D := (dC, dI)) (ci := 4) (v := Value.int (nI n)) (C := RX4) (T := TX4) (N := 8) hx hb hts inX4 hown hK hP 1 rfl rfl 5 (by decide) (hts _ (gw kw_47 rfl)) (fun _ h9 => h9) rfl dX9_vote_18 ?_
      refine lv_icmp_ge (tgt := 61) hx hb dX9_vote_21 (by decide) (fun c_5 => ?_) (fun c_5 => ?_)
      · have hjn : j = n := by
          rcases Nat.lt_or_ge j n with q | q
          · exact absurd c_5 (nI_ge q (by omega))
          · omega
        have hpd9 := pd_P (cx := [oX9 h1 po pp ps pa pe pb pv pk pu pw pq pt un fw, oX4 pv ek ef ew ep es (nI n) sy dn, cI aC pa 8 yc, cA aC po 8 fo, cA aC pp 8 fp]) hP hD [0, 1, 2, 3, 4] (by decide) rfl
        have hP9 := hpd9.1
        have hD9 := hpd9.2
        refine W.widen (k := 0) (n := 0) (by omega) (by omega) ?_
        exact W.vret hx hb hr (fun t ht hW => ⟨⟨(yc), rfl, ⟨fun b hb => by rw [hy1 b hb, hjn], hy2⟩, by rw [ht]; exact hP9, va_K.moved hW.alike hK, hD9⟩, hS.F ht⟩) hS.2.2 dX9_vote_61
      · have hlt : j < n := by
          rcases Nat.lt_or_ge j n with q | q
          · exact q
          · exact absurd (nI_le q (by omega)) c_5
        obtain ⟨ho1, ho2⟩ := hO j (by omega)
        obtain ⟨hp1, hp2⟩ := hPq j hj.1 hlt
        refine lv_aload_n hx hb dX9_vote_24 rfl (lv_at hl 0 rfl) ?_
        refine va_get (D := (dC, dI)) (ci := 9) (v := Value.ref po) (C := RX9) (T := TX9) (N := 14) hx hb hts inX9 hown hK hP 0 rfl rfl 0 (by decide) (hts _ (gw kw_150 rfl)) (fun _ h9 => h9) rfl dX9_vote_25 ?_
        refine lv_iload_n hx hb dX9_vote_28 rfl (lv_at hl 1 rfl) ?_
        have h_6 : vp_in (nI i) 8 := by first | exact vp_in_nI (by omega) (by omega) | (unfold vp_in; decide) | (subst_vars; first | (unfold vp_in; decide) | exact vp_in_nI (by omega) (by omega))
        refine va_alda (r := ro i) hx hb hK hP 3 rfl h_6 (by rw [nI_clamp (by omega)]; exact (hgr.1 i (by omega)).1.1) dX9_vote_29 ?_
        refine lv_iload_n hx hb dX9_vote_30 rfl (lv_at hl 2 rfl) ?_
        have h_7 : vp_in (nI j) 8 := by first | exact vp_in_nI (by omega) (by omega) | (unfold vp_in; decide) | (subst_vars; first | (unfold vp_in; decide) | exact vp_in_nI (by omega) (by omega))
        refine pl_iald hx hb hK hP ((hgr.1 i (by omega)).1.2) h_7 dX9_vote_31 ?_
        refine lv_topi (fun x_8 e_8 => ?_)
        have h9 : x_8 = nI (O j) := by rw [e_8, nI_clamp (by omega)]; exact ho1
        subst h9
        refine lv_aload_n hx hb dX9_vote_32 rfl (lv_at hl 0 rfl) ?_
        refine va_get (D := (dC, dI)) (ci := 9) (v := Value.ref pp) (C := RX9) (T := TX9) (N := 14) hx hb hts inX9 hown hK hP 0 rfl rfl 1 (by decide) (hts _ (gw kw_152 rfl)) (fun _ h9 => h9) rfl dX9_vote_33 ?_
        refine lv_iload_n hx hb dX9_vote_36 rfl (lv_at hl 1 rfl) ?_
        have h_9 : vp_in (nI i) 8 := by first | exact vp_in_nI (by omega) (by omega) | (unfold vp_in; decide) | (subst_vars; first | (unfold vp_in; decide) | exact vp_in_nI (by omega) (by omega))
        refine va_alda (r := rp i) hx hb hK hP 4 rfl h_9 (by rw [nI_clamp (by omega)]; exact (hgr.1 i (by omega)).2.1.1) dX9_vote_37 ?_
        refine lv_iload_n hx hb dX9_vote_38 rfl (lv_at hl 2 rfl) ?_
        have h_10 : vp_in (nI j) 8 := by first | exact vp_in_nI (by omega) (by omega) | (unfold vp_in; decide) | (subst_vars; first | (unfold vp_in; decide) | exact vp_in_nI (by omega) (by omega))
        refine pl_iald hx hb hK hP ((hgr.1 i (by omega)).2.1.2) h_10 dX9_vote_39 ?_
        refine lv_topi (fun x_11 e_11 => ?_)
        have h9 : x_11 = nI (Pq j) := by rw [e_11, nI_clamp (by omega)]; exact hp1
        subst h9
        refine lv_icmp_lt (tgt := 55) hx hb dX9_vote_40 (by decide) (fun c_12 => ?_) (fun c_12 => ?_)
        · have hno : ¬ Pq j ≤ O j := fun q => by
            have := (nI_ltI (by omega) (by omega)).mp c_12
            omega
          have hb1 := vt_n hy1 hno
          have hb2 := hy2
          obtain ⟨x_13, e_13⟩ : ∃ y : Int32, y = (nI j) + 1 := ⟨_, rfl⟩
          refine lv_iinc (v := x_13) (lv' := [(2, Value.int x_13), (0, Value.ref h1), (1, Value.int (nI i))]) hx hb dX9_vote_55 hl (k := 2) rfl (by rw [e_13]; rfl) (by decide) rfl (fun ls hl => ?_)
          have h9 : x_13 = nI (j + 1) := by rw [e_13, nI_1]
          subst h9
          refine lv_goto (tgt := 13) hx hb dX9_vote_58 (by decide) ?_
          exact ih_13 (j + 1) yc (ms_lt hlt hfu) (by omega) (hb1) (hb2) _ _ _ (plP hP [0, 1, 2, 3, 4] rfl) (plD hD [0, 1, 2, 3, 4] (by decide) rfl) hS (lv_sub hl [1, 2, 0] rfl)
        · refine lv_aload_n hx hb dX9_vote_43 rfl (lv_at hl 0 rfl) ?_
          refine va_get (D := (dC, dI)) (ci := 9) (v := Value.ref pa) (C := RX9) (T := TX9) (N := 14) hx hb hts inX9 hown hK hP 0 rfl rfl 3 (by decide) (hts _ (gw kw_156 rfl)) (fun _ h9 => h9) rfl dX9_vote_44 ?_
          refine lv_iload_n hx hb dX9_vote_47 rfl (lv_at hl 1 rfl) ?_
          refine lv_dup2_11 hx hb dX9_vote_48 rfl rfl ?_
          have h_14 : vp_in (nI i) 8 := by first | exact vp_in_nI (by omega) (by omega) | (unfold vp_in; decide) | (subst_vars; first | (unfold vp_in; decide) | exact vp_in_nI (by omega) (by omega))
          refine va_iald hx hb hK hP 2 0 rfl rfl h_14 dX9_vote_49 ?_
          refine lv_topi (fun x_15 e_15 => ?_)
          refine lv_iconst (v := 1) hx hb dX9_vote_50 (by decide) ?_
          refine lv_iload_n hx hb dX9_vote_51 rfl (lv_at hl 2 rfl) ?_
          refine lv_ishl hx hb dX9_vote_52 ?_
          refine lv_topi (fun x_16 e_16 => ?_)
          refine lv_ior hx hb dX9_vote_53 ?_
          refine lv_topi (fun x_17 e_17 => ?_)
          have h_18 : vp_in (nI i) 8 := by first | exact vp_in_nI (by omega) (by omega) | (unfold vp_in; decide) | (subst_vars; first | (unfold vp_in; decide) | exact vp_in_nI (by omega) (by omega))
          refine va_iast hx hb hK hP hD hS 2 0 rfl rfl h_18 dX9_vote_54 (fun H locs hP hD hS => ?_)
          obtain ⟨f_19, e_f_19⟩ : ∃ y : Nat → Int32, y = upd yc (nI i : Int32).toNatClampNeg x_17 := ⟨_, rfl⟩
          have hpd9 : PDx (dC, dI) classes A H (wp [oX9 h1 po pp ps pa pe pb pv pk pu pw pq pt un fw, oX4 pv ek ef ew ep es (nI n) sy dn, cI aC pa 8 f_19, cA aC po 8 fo, cA aC pp 8 fp] (va_pl L (plE aC g))) := by rw [e_f_19]; exact ⟨hP, hD⟩
          have hP := hpd9.1
          have hD := hpd9.2
          clear hpd9
          have hyes : Pq j ≤ O j := by
            rcases Nat.lt_or_ge (O j) (Pq j) with q | q
            · exact absurd (nI_lt q (by omega)) c_12
            · exact q
          have hb1 := vt_y (y := f_19 i) ⟨hj.1, by omega⟩ hy1 (by rw [e_f_19, nI_clamp (by omega), pk_us, e_17, e_16, e_15, nI_clamp (by omega)]) hyes
          have hb2 : ∀ q, q ≠ i → f_19 q = yf q := fun q h => by rw [e_f_19, nI_clamp (by omega), pk_un h]; exact hy2 q h
          obtain ⟨x_20, e_20⟩ : ∃ y : Int32, y = (nI j) + 1 := ⟨_, rfl⟩
          refine lv_iinc (v := x_20) (lv' := [(2, Value.int x_20), (0, Value.ref h1), (1, Value.int (nI i))]) hx hb dX9_vote_55 hl (k := 2) rfl (by rw [e_20]; rfl) (by decide) rfl (fun ls hl => ?_)
          have h9 : x_20 = nI (j + 1) := by rw [e_20, nI_1]
          subst h9
          refine lv_goto (tgt := 13) hx hb dX9_vote_58 (by decide) ?_
          exact ih_13 (j + 1) f_19 (ms_lt hlt hfu) (by omega) (hb1) (hb2) _ _ _ (plP hP [0, 1, 2, 3, 4] rfl) (plD hD [0, 1, 2, 3, 4] (by decide) rfl) hS (lv_sub hl [1, 2, 0] rfl)
  exact lp_13 ((n - (i + 1)) + 1) (i + 1) f_3 (Nat.lt_succ_self _) (by omega) (hy10) (hy20) _ _ _ (plP hP [0, 1, 2, 3, 4] rfl) (plD hD [0, 1, 2, 3, 4] (by decide) rfl) hS (lv_sub hl [1, 2, 0] rfl)

set_option maxHeartbeats 1000000 in
set_option maxRecDepth 100000 in
/-- X4_weightFrom -/
theorem c_X4_weightFrom (l : Launch) (dC : Nat → ClassId) (dI : Nat → Nat → Nat) (aC : Nat → ClassId) (sz : Nat) (h1 : Nat) (ek : Nat) (ef : Nat) (ew : Nat) (ep : Nat) (es : Nat) (n : Nat) (sy : Int32) (dn : Int32) (wf : Nat → Int32) (W0 : Nat → Nat) (i : Nat) (hw : n ≤ 8 ∧ ∀ j, j < n → wf j = nI (W0 j) ∧ W0 j ≤ 9) (hi : i ≤ n) : Met l yX4_weightFrom (wW yX4_weightFrom cX4_weightFrom 4 (some .int)) ({ frames := 1, cells := 0, slots := 0, locals := 13 } : Room) (va_Pc [Value.ref h1, Value.int (nI i)] (fun U => U.heap.size = sz ∧ va_P (dC, dI) classes [oX4 h1 ek ef ew ep es (nI n) sy dn, cI aC ew 8 wf] U.heap ∧ va_K (dC, dI) classes (TY aC) U ∧ va_D (fun _ => True) [oX4 h1 ek ef ew ep es (nI n) sy dn, cI aC ew 8 wf] ∧ NX U)) (va_Qi (fun (r : Int32) (_ : Unit) => r = nI (sumr W0 i (n - i))) (fun (_ : Unit) (t : State) => va_P (dC, dI) classes [oX4 h1 ek ef ew ep es (nI n) sy dn, cI aC ew 8 wf] t.heap ∧ va_K (dC, dI) classes (TY aC) t ∧ va_D (va_A [oX4 h1 ek ef ew ep es (nI n) sy dn, cI aC ew 8 wf] sz) [oX4 h1 ek ef ew ep es (nI n) sy dn, cI aC ew 8 wf]) (va_A [oX4 h1 ek ef ew ep es (nI n) sy dn, cI aC ew 8 wf] sz)) 0 0 (va_A [oX4 h1 ek ef ew ep es (nI n) sy dn, cI aC ew 8 wf] sz) := by
  refine Met.ofW (cc := cX4_weightFrom) (maxL := 4) (ret := (some .int)) (by decide) rfl ?_
  intro p e s m args below meth c s₁ B hml hv
  obtain ⟨rfl, hsz, hP, hK, hD0, hN⟩ := hv
  have hx := B.exec
  have hb := B.bytes
  have hr := B.returns
  have hts0 := atoms_spec (ws := (wW yX4_weightFrom cX4_weightFrom 4 (some .int))) B.pre
  have hts : ∀ w9 ∈ lw_G, w9.before ([Value.ref h1, Value.int (nI i)] : List Value).toArray s = true := fun w9 h9 => hts0 w9 (List.mem_cons_of_mem _ h9)
  have hown : s.vm.findClass RX4 = some m.cls := findClass_of_methodNamed (x := yX4_weightFrom) B.named
  have hlocks := B.notSynchronized
  subst hsz
  have hD := hD0.self (sz := s.heap.size)
  generalize hAe : va_A [oX4 h1 ek ef ew ep es (nI n) sy dn, cI aC ew 8 wf] s.heap.size = A at hD ⊢
  have hA : ∀ q : Nat, s.heap.size ≤ q → A q := fun q h => by rw [← hAe]; exact Or.inr h
  obtain ⟨H, hHe⟩ : ∃ H : Heap, H = s.heap := ⟨_, rfl⟩
  have hS : va_S A s.heap H [] := by rw [hHe]; exact va_S.rf
  have hP : va_P (dC, dI) classes [oX4 h1 ek ef ew ep es (nI n) sy dn, cI aC ew 8 wf] H := by rw [hHe]; exact hP
  have hl := lv_entry ([Value.ref h1, Value.int (nI i)]) (n := 4) (Nat.le_of_ble_eq_true rfl)
  rw [lg_entry_eq]
  generalize (lg_sl ([Value.ref h1, Value.int (nI i)]) ++ List.replicate (4 - (lg_sl ([Value.ref h1, Value.int (nI i)])).length) Slot.unset).toArray = ls at hl ⊢
  have hl : lv_has ls 4 [(0, Value.ref h1), (1, Value.int (nI i))] := hl
  rw [← hHe]
  refine lv_iconst (v := 0) hx hb dX4_weightFrom_0 (by decide) ?_
  refine lv_topi (fun x_1 e_1 => ?_)
  have h9 : x_1 = nI (sumr W0 i (i - i)) := by rw [e_1, Nat.sub_self]; rfl
  subst h9
  refine lv_istore_n (lv' := [(2, Value.int (nI (sumr W0 i (i - i)))), (0, Value.ref h1), (1, Value.int (nI i))]) hx hb dX4_weightFrom_1 rfl hl (by decide) rfl (fun ls hl => ?_)
  refine lv_iconst (v := 0) hx hb dX4_weightFrom_2 (by decide) ?_
  refine lv_iload_n hx hb dX4_weightFrom_3 rfl (lv_at hl 2 rfl) ?_
  refine va_mmax hx hb (by rw [hml]; exact hl.1.symm) hown (hts _ (gw kw_466 rfl)) (hts _ (gw kw_374 rfl)) (hts _ (gw kw_14 rfl)) (hts _ (gw kw_375 rfl)) (Nat.le_of_ble_eq_true rfl) (Nat.le_of_ble_eq_true rfl) (Nat.zero_le _) (Nat.zero_le _) dX4_weightFrom_4 ?_
  refine lv_topi (fun x_2 e_2 => ?_)
  have h9 : x_2 = nI i := by rw [e_2]; exact max0_n (by omega)
  subst h9
  refine lv_istore_n (lv' := [(3, Value.int (nI i)), (2, Value.int (nI (sumr W0 i (i - i)))), (0, Value.ref h1), (1, Value.int (nI i))]) hx hb dX4_weightFrom_7 rfl hl (by decide) rfl (fun ls hl => ?_)
  have lp_8 : ∀ (fu : Nat) (j : Nat) (hfu : n - j < fu) (hj : i ≤ j ∧ j ≤ n) (H : Heap) (locs : List Loc) (ls : Array Slot), va_P (dC, dI) classes [oX4 h1 ek ef ew ep es (nI n) sy dn, cI aC ew 8 wf] H → va_D A [oX4 h1 ek ef ew ep es (nI n) sy dn, cI aC ew 8 wf] → va_S A s.heap H locs → lv_has ls 4 [(0, Value.ref h1), (1, Value.int (nI i)), (2, Value.int (nI (sumr W0 i (j - i)))), (3, Value.int (nI j))] → W p l e (headSpec (wW yX4_weightFrom cX4_weightFrom 4 (some .int)) ({ frames := 1, cells := 0, slots := 0, locals := 13 } : Room)).room s m ([Value.ref h1, Value.int (nI i)] : List Value).toArray below meth c H locs 0 0 (MQ below (va_Qi (fun (r : Int32) (_ : Unit) => r = nI (sumr W0 i (n - i))) (fun (_ : Unit) (t : State) => va_P (dC, dI) classes [oX4 h1 ek ef ew ep es (nI n) sy dn, cI aC ew 8 wf] t.heap ∧ va_K (dC, dI) classes (TY aC) t ∧ va_D A [oX4 h1 ek ef ew ep es (nI n) sy dn, cI aC ew 8 wf]) A) ([Value.ref h1, Value.int (nI i)] : List Value).toArray s 0 0 A) (F0 m 8 ls []) := by
    intro fu
    induction fu with
    | zero => intro j hfu; exact absurd hfu (Nat.not_lt_zero _)
    | succ fu ih_8 =>
      intro j hfu hj H locs ls hP hD hS hl
      refine lv_iload_n hx hb dX4_weightFrom_8 rfl (lv_at hl 3 rfl) ?_
      refine lv_aload_n hx hb dX4_weightFrom_9 rfl (lv_at hl 0 rfl) ?_
      refine va_get (D := (dC, dI)) (ci := 4) (v := Value.int (nI n)) (C := RX4) (T := TX4) (N := 8) hx hb hts inX4 hown hK hP 0 rfl rfl 5 (by decide) (hts _ (gw kw_48 rfl)) (fun _ h9 => h9) rfl dX4_weightFrom_10 ?_
      refine lv_icmp_ge (tgt := 31) hx hb dX4_weightFrom_13 (by decide) (fun c_3 => ?_) (fun c_3 => ?_)
      · have hjn : j = n := by
          rcases Nat.lt_or_ge j n with q | q
          · exact absurd c_3 (nI_ge q (by omega))
          · omega
        refine lv_iload_n hx hb dX4_weightFrom_31 rfl (lv_at hl 2 rfl) ?_
        have hpd9 := pd_N (cx := [oX4 h1 ek ef ew ep es (nI n) sy dn, cI aC ew 8 wf]) hP hD [0, 1] (by decide) rfl
        have hP9 := hpd9.1
        have hD9 := hpd9.2
        refine W.widen (k := 0) (n := 0) (by omega) (by omega) ?_
        exact W.iret (v := nI (sumr W0 i (j - i))) hx hb hr (fun t ht hW => ⟨⟨(nI (sumr W0 i (j - i))), (), rfl, by rw [hjn], by rw [ht]; exact hP9, va_K.moved hW.alike hK, hD9⟩, hS.F ht⟩) hS.2.2 dX4_weightFrom_32
      · have hlt : j < n := by
          rcases Nat.lt_or_ge j n with q | q
          · exact q
          · exact absurd (nI_le q (by omega)) c_3
        refine lv_iload_n hx hb dX4_weightFrom_16 rfl (lv_at hl 2 rfl) ?_
        refine lv_aload_n hx hb dX4_weightFrom_17 rfl (lv_at hl 0 rfl) ?_
        refine va_get (D := (dC, dI)) (ci := 4) (v := Value.ref ew) (C := RX4) (T := TX4) (N := 8) hx hb hts inX4 hown hK hP 0 rfl rfl 2 (by decide) (hts _ (gw kw_38 rfl)) (fun _ h9 => h9) rfl dX4_weightFrom_18 ?_
        refine lv_iload_n hx hb dX4_weightFrom_21 rfl (lv_at hl 3 rfl) ?_
        have h_4 : vp_in (nI j) 8 := by first | exact vp_in_nI (by omega) (by omega) | (unfold vp_in; decide) | (subst_vars; first | (unfold vp_in; decide) | exact vp_in_nI (by omega) (by omega))
        refine va_iald hx hb hK hP 1 0 rfl rfl h_4 dX4_weightFrom_22 ?_
        refine lv_topi (fun x_5 e_5 => ?_)
        have h9 : x_5 = nI (W0 j) := by rw [e_5, nI_clamp (by omega)]; exact (hw.2 j hlt).1
        subst h9
        refine lv_iadd hx hb dX4_weightFrom_23 ?_
        refine lv_topi (fun x_6 e_6 => ?_)
        have h9 : x_6 = nI (sumr W0 i (j + 1 - i)) := by rw [e_6, nI_add, sumr_suc hj.1]
        subst h9
        refine lv_istore_n (lv' := [(2, Value.int (nI (sumr W0 i (j + 1 - i)))), (0, Value.ref h1), (1, Value.int (nI i)), (3, Value.int (nI j))]) hx hb dX4_weightFrom_24 rfl hl (by decide) rfl (fun ls hl => ?_)
        obtain ⟨x_7, e_7⟩ : ∃ y : Int32, y = (nI j) + 1 := ⟨_, rfl⟩
        refine lv_iinc (v := x_7) (lv' := [(3, Value.int x_7), (2, Value.int (nI (sumr W0 i (j + 1 - i)))), (0, Value.ref h1), (1, Value.int (nI i))]) hx hb dX4_weightFrom_25 hl (k := 3) rfl (by rw [e_7]; rfl) (by decide) rfl (fun ls hl => ?_)
        have h9 : x_7 = nI (j + 1) := by rw [e_7, nI_1]
        subst h9
        refine lv_goto (tgt := 8) hx hb dX4_weightFrom_28 (by decide) ?_
        exact ih_8 (j + 1) (ms_lt hlt hfu) (by omega) _ _ _ (hP.sub [0, 1] rfl) (hD.sub [0, 1] (by decide) rfl) hS (lv_sub hl [2, 3, 1, 0] rfl)
  exact lp_8 ((n - i) + 1) i (Nat.lt_succ_self _) (by omega) _ _ _ (hP.sub [0, 1] rfl) (hD.sub [0, 1] (by decide) rfl) hS (lv_sub hl [2, 3, 1, 0] rfl)

set_option maxHeartbeats 1000000 in
set_option maxRecDepth 100000 in
/-- X4_isCarried -/
theorem c_X4_isCarried (l : Launch) (dC : Nat → ClassId) (dI : Nat → Nat → Nat) (aC : Nat → ClassId) (sz : Nat) (h1 : Nat) (ek : Nat) (ef : Nat) (ew : Nat) (ep : Nat) (es : Nat) (n : Nat) (sy : Int32) (dn : Int32) (wf : Nat → Int32) (stf : Nat → Int32) (W0 : Nat → Nat) (i : Nat) (y : Int32) (hw : n ≤ 8 ∧ ∀ j, j < n → wf j = nI (W0 j) ∧ W0 j ≤ 9) (hi : i ≤ n) : Met l yX4_isCarried (wW yX4_isCarried cX4_isCarried 5 (some .boolean)) ({ frames := 2, cells := 0, slots := 0, locals := 36 } : Room) (va_Pc [Value.ref h1, Value.int (nI i), Value.int y] (fun U => U.heap.size = sz ∧ va_P (dC, dI) classes [oX4 h1 ek ef ew ep es (nI n) sy dn, cI aC ew 8 wf, cI aC es 5 stf] U.heap ∧ va_K (dC, dI) classes (TY aC) U ∧ va_D (fun _ => True) [oX4 h1 ek ef ew ep es (nI n) sy dn, cI aC ew 8 wf, cI aC es 5 stf] ∧ NX U)) (va_Qi (fun (r : Int32) (_ : Unit) => r = if nd (stf 1) (sumr W0 i (n - i)) ≤ yw W0 y i (n - i) then 1 else 0) (fun (_ : Unit) (t : State) => va_P (dC, dI) classes [oX4 h1 ek ef ew ep es (nI n) sy dn, cI aC ew 8 wf, cI aC es 5 stf] t.heap ∧ va_K (dC, dI) classes (TY aC) t ∧ va_D (va_A [oX4 h1 ek ef ew ep es (nI n) sy dn, cI aC ew 8 wf, cI aC es 5 stf] sz) [oX4 h1 ek ef ew ep es (nI n) sy dn, cI aC ew 8 wf, cI aC es 5 stf]) (va_A [oX4 h1 ek ef ew ep es (nI n) sy dn, cI aC ew 8 wf, cI aC es 5 stf] sz)) 0 0 (va_A [oX4 h1 ek ef ew ep es (nI n) sy dn, cI aC ew 8 wf, cI aC es 5 stf] sz) := by
  refine Met.ofW (cc := cX4_isCarried) (maxL := 5) (ret := (some .boolean)) (by decide) rfl ?_
  intro p e s m args below meth c s₁ B hml hv
  obtain ⟨rfl, hsz, hP, hK, hD0, hN⟩ := hv
  have hx := B.exec
  have hb := B.bytes
  have hr := B.returns
  have hts0 := atoms_spec (ws := (wW yX4_isCarried cX4_isCarried 5 (some .boolean))) B.pre
  have hts : ∀ w9 ∈ lw_G, w9.before ([Value.ref h1, Value.int (nI i), Value.int y] : List Value).toArray s = true := fun w9 h9 => hts0 w9 (List.mem_cons_of_mem _ h9)
  have hown : s.vm.findClass RX4 = some m.cls := findClass_of_methodNamed (x := yX4_isCarried) B.named
  have hlocks := B.notSynchronized
  subst hsz
  have hD := hD0.self (sz := s.heap.size)
  generalize hAe : va_A [oX4 h1 ek ef ew ep es (nI n) sy dn, cI aC ew 8 wf, cI aC es 5 stf] s.heap.size = A at hD ⊢
  have hA : ∀ q : Nat, s.heap.size ≤ q → A q := fun q h => by rw [← hAe]; exact Or.inr h
  obtain ⟨H, hHe⟩ : ∃ H : Heap, H = s.heap := ⟨_, rfl⟩
  have hS : va_S A s.heap H [] := by rw [hHe]; exact va_S.rf
  have hP : va_P (dC, dI) classes [oX4 h1 ek ef ew ep es (nI n) sy dn, cI aC ew 8 wf, cI aC es 5 stf] H := by rw [hHe]; exact hP
  have hl := lv_entry ([Value.ref h1, Value.int (nI i), Value.int y]) (n := 5) (Nat.le_of_ble_eq_true rfl)
  rw [lg_entry_eq]
  generalize (lg_sl ([Value.ref h1, Value.int (nI i), Value.int y]) ++ List.replicate (5 - (lg_sl ([Value.ref h1, Value.int (nI i), Value.int y])).length) Slot.unset).toArray = ls at hl ⊢
  have hl : lv_has ls 5 [(0, Value.ref h1), (1, Value.int (nI i)), (2, Value.int y)] := hl
  rw [← hHe]
  refine lv_iconst (v := 0) hx hb dX4_isCarried_0 (by decide) ?_
  refine lv_topi (fun x_1 e_1 => ?_)
  have h9 : x_1 = nI (yw W0 y i (i - i)) := by rw [e_1, Nat.sub_self]; rfl
  subst h9
  refine lv_istore_n (lv' := [(3, Value.int (nI (yw W0 y i (i - i)))), (0, Value.ref h1), (1, Value.int (nI i)), (2, Value.int y)]) hx hb dX4_isCarried_1 rfl hl (by decide) rfl (fun ls hl => ?_)
  refine lv_iconst (v := 0) hx hb dX4_isCarried_2 (by decide) ?_
  refine lv_iload_n hx hb dX4_isCarried_3 rfl (lv_at hl 2 rfl) ?_
  refine va_mmax hx hb (by rw [hml]; exact hl.1.symm) hown (hts _ (gw kw_466 rfl)) (hts _ (gw kw_374 rfl)) (hts _ (gw kw_14 rfl)) (hts _ (gw kw_375 rfl)) (Nat.le_of_ble_eq_true rfl) (Nat.le_of_ble_eq_true rfl) (Nat.zero_le _) (Nat.zero_le _) dX4_isCarried_4 ?_
  refine lv_topi (fun x_2 e_2 => ?_)
  have h9 : x_2 = nI i := by rw [e_2]; exact max0_n (by omega)
  subst h9
  refine lv_istore (lv' := [(4, Value.int (nI i)), (3, Value.int (nI (yw W0 y i (i - i)))), (0, Value.ref h1), (1, Value.int (nI i)), (2, Value.int y)]) hx hb dX4_isCarried_7 hl (by decide) rfl (fun ls hl => ?_)
  have lp_9 : ∀ (fu : Nat) (j : Nat) (hfu : n - j < fu) (hj : i ≤ j ∧ j ≤ n) (H : Heap) (locs : List Loc) (ls : Array Slot), va_P (dC, dI) classes [oX4 h1 ek ef ew ep es (nI n) sy dn, cI aC ew 8 wf, cI aC es 5 stf] H → va_D A [oX4 h1 ek ef ew ep es (nI n) sy dn, cI aC ew 8 wf, cI aC es 5 stf] → va_S A s.heap H locs → lv_has ls 5 [(0, Value.ref h1), (1, Value.int (nI i)), (2, Value.int y), (3, Value.int (nI (yw W0 y i (j - i)))), (4, Value.int (nI j))] → W p l e (headSpec (wW yX4_isCarried cX4_isCarried 5 (some .boolean)) ({ frames := 2, cells := 0, slots := 0, locals := 36 } : Room)).room s m ([Value.ref h1, Value.int (nI i), Value.int y] : List Value).toArray below meth c H locs 0 0 (MQ below (va_Qi (fun (r : Int32) (_ : Unit) => r = if nd (stf 1) (sumr W0 i (n - i)) ≤ yw W0 y i (n - i) then 1 else 0) (fun (_ : Unit) (t : State) => va_P (dC, dI) classes [oX4 h1 ek ef ew ep es (nI n) sy dn, cI aC ew 8 wf, cI aC es 5 stf] t.heap ∧ va_K (dC, dI) classes (TY aC) t ∧ va_D A [oX4 h1 ek ef ew ep es (nI n) sy dn, cI aC ew 8 wf, cI aC es 5 stf]) A) ([Value.ref h1, Value.int (nI i), Value.int y] : List Value).toArray s 0 0 A) (F0 m 9 ls []) := by
    intro fu
    induction fu with
    | zero => intro j hfu; exact absurd hfu (Nat.not_lt_zero _)
    | succ fu ih_9 =>
      intro j hfu hj H locs ls hP hD hS hl
      refine lv_iload hx hb dX4_isCarried_9 (lv_at hl 4 rfl) ?_
      refine lv_aload_n hx hb dX4_isCarried_11 rfl (lv_at hl 0 rfl) ?_
      refine va_get (D := (dC, dI)) (ci := 4) (v := Value.int (nI n)) (C := RX4) (T := TX4) (N := 8) hx hb hts inX4 hown hK hP 0 rfl rfl 5 (by decide) (hts _ (gw kw_48 rfl)) (fun _ h9 => h9) rfl dX4_isCarried_12 ?_
      refine lv_icmp_ge (tgt := 44) hx hb dX4_isCarried_15 (by decide) (fun c_3 => ?_) (fun c_3 => ?_)
      · have hjn : j = n := by
          rcases Nat.lt_or_ge j n with q | q
          · exact absurd c_3 (nI_ge q (by omega))
          · omega
        refine lv_aload_n hx hb dX4_isCarried_44 rfl (lv_at hl 0 rfl) ?_
        refine va_get (D := (dC, dI)) (ci := 4) (v := Value.ref es) (C := RX4) (T := TX4) (N := 8) hx hb hts inX4 hown hK hP 0 rfl rfl 4 (by decide) (hts _ (gw kw_43 rfl)) (fun _ h9 => h9) rfl dX4_isCarried_45 ?_
        refine lv_iconst (v := 1) hx hb dX4_isCarried_48 (by decide) ?_
        have h_4 : vp_in 1 5 := by unfold vp_in; decide
        refine va_iald hx hb hK hP 2 0 rfl rfl h_4 dX4_isCarried_49 ?_
        refine lv_topi (fun x_5 e_5 => ?_)
        have h9 : x_5 = (stf 1) := by rw [e_5]; rfl
        subst h9
        refine lv_iload_n hx hb dX4_isCarried_50 rfl (lv_at hl 3 rfl) ?_
        refine lv_aload_n hx hb dX4_isCarried_51 rfl (lv_at hl 0 rfl) ?_
        refine lv_iload_n hx hb dX4_isCarried_52 rfl (lv_at hl 1 rfl) ?_
        have hpd9 := pdf_N (cx := [oX4 h1 ek ef ew ep es (nI n) sy dn, cI aC ew 8 wf]) hP hD hS hA [0, 1] (by decide) rfl
        have hPc := hpd9.1
        have hDc := hpd9.2.1
        have hFc := hpd9.2.2
        clear hpd9
        refine va_calli (va_runV (As := [Value.int (nI i)]) (rest := [Value.int (nI (yw W0 y i (j - i))), Value.int (stf 1)]) ⟨hx, hb, hml, hown, hts⟩ (c_X4_weightFrom l dC dI aC H.size h1 ek ef ew ep es n sy dn wf W0 i (hw) (hi)) ⟨(callB_of 1 hts (gG kw_465) rfl rfl rfl (hts _ (gw kw_2 rfl)) (hts _ (gw kw_482 rfl)) hd_X4_weightFrom ⟨Nat.le_of_ble_eq_true rfl, Nat.le_of_ble_eq_true rfl⟩), (hts _ (gw kw_463 rfl)), (hts _ (gw kw_464 rfl))⟩ ⟨fb_std, va_recv (q := (RX4, TX4, 8)) hK hPc (ci := 4) (q0 := 0) rfl rfl, pre_std hPc hK hDc hN⟩ rfl rfl hl.1 rfl (lv_room (Nat.le_of_ble_eq_true rfl)) dX4_isCarried_53 ⟨Nat.le_of_ble_eq_true rfl, Nat.le_of_ble_eq_true rfl⟩) hS (fun q _ h => hFc q h) hFc (fun x_6 u9 t9 H1 locs ht hvm hw_6 hB hz1 hk1 hS => ?_)
        obtain ⟨hP1, hK1, hD1⟩ := hB
        rw [ht] at hP1
        clear hK1
        try dsimp only at hw_6
        have hpd9 : PDx (dC, dI) classes A H1 [cI aC es 5 stf, oX4 h1 ek ef ew ep es (nI n) sy dn, cI aC ew 8 wf] := jn_N (wr := [cI aC es 5 stf]) hFc hk1 hP1 hD1 hP hD [0, 1] [2] rfl rfl (by decide) (by decide)
        have hP := hpd9.1
        have hD := hpd9.2
        clear hpd9
        generalize H1 = H at hP hS ⊢
        clear hPc hDc hFc hz1 hk1 hP1 hD1 ht hvm
        have h9 : x_6 = nI (sumr W0 i (n - i)) := hw_6
        subst h9
        have hs9 := w_le (W := W0) (a := i) (k := n - i) (fun j q => (hw.2 j q).2) (by omega) hw.1
        have hy9 := yw_le (W := W0) (y := y) (a := i) (k := j - i) (fun j q => (hw.2 j q).2) (by omega) hw.1
        have hpd9 := pdf_N (cx := []) hP hD hS hA [] (by decide) rfl
        have hPc := hpd9.1
        have hDc := hpd9.2.1
        have hFc := hpd9.2.2
        clear hpd9
        refine va_calli (va_runSN (As := [Value.int (stf 1), Value.int (nI (yw W0 y i (j - i))), Value.int (nI (sumr W0 i (n - i)))]) (rest := []) ⟨hx, hb, hml, hown, hts⟩ (c_X11_isEnough l dC dI aC H.size (stf 1) (yw W0 y i (j - i)) (sumr W0 i (n - i)) (by omega) (by omega)) ⟨(va_cnB 3 hts (gG kw_469) rfl rfl rfl (hN.1 _ kw_483 rfl) (hts _ (gw kw_1 rfl)) hd_X11_isEnough ⟨Nat.le_of_ble_eq_true rfl, Nat.le_of_ble_eq_true rfl⟩), (hts _ (gw kw_468 rfl)), trivial⟩ ⟨fb_std, pre_std hPc hK hDc hN⟩ rfl rfl hl.1 rfl (lv_room (Nat.le_of_ble_eq_true rfl)) dX4_isCarried_56 ⟨Nat.le_of_ble_eq_true rfl, Nat.le_of_ble_eq_true rfl⟩) hS (fun q _ h => hFc q h) hFc (fun x_7 u9 t9 H1 locs ht hvm hw_7 hB hz1 hk1 hS => ?_)
        obtain ⟨hP1, hK1, hD1⟩ := hB
        rw [ht] at hP1
        clear hK1
        try dsimp only at hw_7
        have hpd9 : PDx (dC, dI) classes A H1 [cI aC es 5 stf, oX4 h1 ek ef ew ep es (nI n) sy dn, cI aC ew 8 wf] := jn_N (wr := [cI aC es 5 stf, oX4 h1 ek ef ew ep es (nI n) sy dn, cI aC ew 8 wf]) hFc hk1 hP1 hD1 hP hD [] [0, 1, 2] rfl rfl (by decide) (by decide)
        have hP := hpd9.1
        have hD := hpd9.2
        clear hpd9
        generalize H1 = H at hP hS ⊢
        clear hPc hDc hFc hz1 hk1 hP1 hD1 ht hvm
        have hz_56 := hw_7
        have hpd9 := pd_N (cx := [oX4 h1 ek ef ew ep es (nI n) sy dn, cI aC ew 8 wf, cI aC es 5 stf]) hP hD [1, 2, 0] (by decide) rfl
        have hP9 := hpd9.1
        have hD9 := hpd9.2
        refine W.widen (k := 0) (n := 0) (by omega) (by omega) ?_
        exact W.zret (v := x_7) hx hb hr (by rw [hz_56]; split <;> rfl) (fun t ht hW => ⟨⟨x_7, (), rfl, by rw [hz_56, hjn], by rw [ht]; exact hP9, va_K.moved hW.alike hK, hD9⟩, hS.F ht⟩) hS.2.2 dX4_isCarried_59
      · have hlt : j < n := by
          rcases Nat.lt_or_ge j n with q | q
          · exact q
          · exact absurd (nI_le q (by omega)) c_3
        refine lv_iload_n hx hb dX4_isCarried_18 rfl (lv_at hl 2 rfl) ?_
        refine lv_iload hx hb dX4_isCarried_19 (lv_at hl 4 rfl) ?_
        refine lv_ishr hx hb dX4_isCarried_21 ?_
        refine lv_topi (fun x_8 e_8 => ?_)
        refine lv_iconst (v := 1) hx hb dX4_isCarried_22 (by decide) ?_
        refine lv_iand hx hb dX4_isCarried_23 ?_
        refine lv_topi (fun x_9 e_9 => ?_)
        refine lv_iconst (v := 1) hx hb dX4_isCarried_24 (by decide) ?_
        refine lv_icmp_ne (tgt := 38) hx hb dX4_isCarried_25 (by decide) (fun c_10 => ?_) (fun c_10 => ?_)
        · have hbt : ¬ bt y j = true := fun q => c_10 (by rw [e_9, e_8]; exact (b_tst (by omega)).mpr q)
          have h9 : nI (yw W0 y i (j - i)) = nI (yw W0 y i (j + 1 - i)) := by rw [yw_suc hj.1, if_neg hbt]; rfl
          rw [h9] at hl
          obtain ⟨x_11, e_11⟩ : ∃ y : Int32, y = (nI j) + 1 := ⟨_, rfl⟩
          refine lv_iinc (v := x_11) (lv' := [(4, Value.int x_11), (0, Value.ref h1), (1, Value.int (nI i)), (2, Value.int y), (3, Value.int (nI (yw W0 y i (j + 1 - i))))]) hx hb dX4_isCarried_38 hl (k := 4) rfl (by rw [e_11]; rfl) (by decide) rfl (fun ls hl => ?_)
          have h9 : x_11 = nI (j + 1) := by rw [e_11, nI_1]
          subst h9
          refine lv_goto (tgt := 9) hx hb dX4_isCarried_41 (by decide) ?_
          exact ih_9 (j + 1) (ms_lt hlt hfu) (by omega) _ _ _ (hP.sub [0, 1, 2] rfl) (hD.sub [0, 1, 2] (by decide) rfl) hS (lv_sub hl [1, 2, 3, 4, 0] rfl)
        · refine lv_iload_n hx hb dX4_isCarried_28 rfl (lv_at hl 3 rfl) ?_
          refine lv_aload_n hx hb dX4_isCarried_29 rfl (lv_at hl 0 rfl) ?_
          refine va_get (D := (dC, dI)) (ci := 4) (v := Value.ref ew) (C := RX4) (T := TX4) (N := 8) hx hb hts inX4 hown hK hP 0 rfl rfl 2 (by decide) (hts _ (gw kw_38 rfl)) (fun _ h9 => h9) rfl dX4_isCarried_30 ?_
          refine lv_iload hx hb dX4_isCarried_33 (lv_at hl 4 rfl) ?_
          have h_12 : vp_in (nI j) 8 := by first | exact vp_in_nI (by omega) (by omega) | (unfold vp_in; decide) | (subst_vars; first | (unfold vp_in; decide) | exact vp_in_nI (by omega) (by omega))
          refine va_iald hx hb hK hP 1 0 rfl rfl h_12 dX4_isCarried_35 ?_
          refine lv_topi (fun x_13 e_13 => ?_)
          have h9 : x_13 = nI (W0 j) := by rw [e_13, nI_clamp (by omega)]; exact (hw.2 j hlt).1
          subst h9
          refine lv_iadd hx hb dX4_isCarried_36 ?_
          refine lv_topi (fun x_14 e_14 => ?_)
          refine lv_istore_n (lv' := [(3, Value.int x_14), (0, Value.ref h1), (1, Value.int (nI i)), (2, Value.int y), (4, Value.int (nI j))]) hx hb dX4_isCarried_37 rfl hl (by decide) rfl (fun ls hl => ?_)
          have hbt : bt y j = true := (b_tst (by omega)).mp (by rw [← e_8, ← e_9]; exact c_10)
          have h9 : x_14 = nI (yw W0 y i (j + 1 - i)) := by rw [e_14, nI_add, yw_suc hj.1, if_pos hbt]
          subst h9
          obtain ⟨x_15, e_15⟩ : ∃ y : Int32, y = (nI j) + 1 := ⟨_, rfl⟩
          refine lv_iinc (v := x_15) (lv' := [(4, Value.int x_15), (3, Value.int (nI (yw W0 y i (j + 1 - i)))), (0, Value.ref h1), (1, Value.int (nI i)), (2, Value.int y)]) hx hb dX4_isCarried_38 hl (k := 4) rfl (by rw [e_15]; rfl) (by decide) rfl (fun ls hl => ?_)
          have h9 : x_15 = nI (j + 1) := by rw [e_15, nI_1]
          subst h9
          refine lv_goto (tgt := 9) hx hb dX4_isCarried_41 (by decide) ?_
          exact ih_9 (j + 1) (ms_lt hlt hfu) (by omega) _ _ _ (hP.sub [0, 1, 2] rfl) (hD.sub [0, 1, 2] (by decide) rfl) hS (lv_sub hl [2, 3, 4, 1, 0] rfl)
  exact lp_9 ((n - i) + 1) i (Nat.lt_succ_self _) (by omega) _ _ _ (hP.sub [0, 1, 2] rfl) (hD.sub [0, 1, 2] (by decide) rfl) hS (lv_sub hl [2, 3, 4, 1, 0] rfl)

set_option maxHeartbeats 1000000 in
set_option maxRecDepth 100000 in
/-- X9_end -/
theorem c_X9_end (l : Launch) (dC : Nat → ClassId) (dI : Nat → Nat → Nat) (aC : Nat → ClassId) (sz : Nat) (h1 : Nat) (po : Nat) (pp : Nat) (ps : Nat) (pa : Nat) (pe : Nat) (pb : Nat) (pv : Nat) (pk : Nat) (pu : Nat) (pw : Nat) (pq : Nat) (pt : Nat) (un : Int32) (fw : Int32) (ek : Nat) (ef : Nat) (ew : Nat) (ep : Nat) (es : Nat) (n : Nat) (sy : Int32) (dn : Int32) (wf : Nat → Int32) (stf : Nat → Int32) (yf : Nat → Int32) (ef0 : Nat → Int32) (L : List Nat) (g : Nat → Nat → Int32) (fo : Nat → Option Nat) (fp : Nat → Option Nat) (fs : Nat → Option Nat) (ro : Nat → Nat) (rp : Nat → Nat) (rs : Nat → Nat) (W0 : Nat → Nat) (i : Nat) (hgr : GRD L fo fp fs ro rp rs) (hw : n ≤ 8 ∧ ∀ j, j < n → wf j = nI (W0 j) ∧ W0 j ≤ 9) (hi : i < n) : Met l yX9_end (wW yX9_end cX9_end 3 (none : Option FieldType)) ({ frames := 3, cells := 0, slots := 0, locals := 60 } : Room) (va_Pc [Value.ref h1, Value.int (nI i)] (fun U => U.heap.size = sz ∧ va_P (dC, dI) classes (wp [oX9 h1 po pp ps pa pe pb pv pk pu pw pq pt un fw, oX4 pv ek ef ew ep es (nI n) sy dn, cI aC ew 8 wf, cI aC es 5 stf, cI aC pa 8 yf, cI aC pe 8 ef0, cA aC po 8 fo, cA aC ps 8 fs] (va_pl L (plE aC g))) U.heap ∧ va_K (dC, dI) classes (TY aC) U ∧ va_D (fun _ => True) (wp [oX9 h1 po pp ps pa pe pb pv pk pu pw pq pt un fw, oX4 pv ek ef ew ep es (nI n) sy dn, cI aC ew 8 wf, cI aC es 5 stf, cI aC pa 8 yf, cI aC pe 8 ef0, cA aC po 8 fo, cA aC ps 8 fs] (va_pl L (plE aC g))) ∧ NX U)) (va_Qv (fun (u : (Nat → Int32) × (Nat → Nat → Int32)) => match u with | (eg, g2) => ((n ≤ i + 1 ∨ nd (stf 1) (sumr W0 i (n - i)) ≤ yw W0 (yf i) i (n - i)) → (eg i = nI i ∧ ∀ q, q < 8 → g2 (rs i) q = g (ro i) q)) ∧ (¬ (n ≤ i + 1 ∨ nd (stf 1) (sumr W0 i (n - i)) ≤ yw W0 (yf i) i (n - i)) → (eg i = ef0 (i + 1) ∧ ∀ q, q < 8 → g2 (rs i) q = if q = i then -1 else g (rs (i + 1)) q)) ∧ (∀ q, q ≠ i → eg q = ef0 q) ∧ ∀ a, a ≠ rs i → g2 a = g a) (fun (u : (Nat → Int32) × (Nat → Nat → Int32)) (t : State) => match u with | (eg, g2) => va_P (dC, dI) classes (wp [oX9 h1 po pp ps pa pe pb pv pk pu pw pq pt un fw, oX4 pv ek ef ew ep es (nI n) sy dn, cI aC ew 8 wf, cI aC es 5 stf, cI aC pa 8 yf, cI aC pe 8 eg, cA aC po 8 fo, cA aC ps 8 fs] (va_pl L (plE aC g2))) t.heap ∧ va_K (dC, dI) classes (TY aC) t ∧ va_D (va_A (wp [oX9 h1 po pp ps pa pe pb pv pk pu pw pq pt un fw, oX4 pv ek ef ew ep es (nI n) sy dn, cI aC ew 8 wf, cI aC es 5 stf, cI aC pa 8 yf, cI aC pe 8 ef0, cA aC po 8 fo, cA aC ps 8 fs] (va_pl L (plE aC g))) sz) (wp [oX9 h1 po pp ps pa pe pb pv pk pu pw pq pt un fw, oX4 pv ek ef ew ep es (nI n) sy dn, cI aC ew 8 wf, cI aC es 5 stf, cI aC pa 8 yf, cI aC pe 8 eg, cA aC po 8 fo, cA aC ps 8 fs] (va_pl L (plE aC g2)))) (va_A (wp [oX9 h1 po pp ps pa pe pb pv pk pu pw pq pt un fw, oX4 pv ek ef ew ep es (nI n) sy dn, cI aC ew 8 wf, cI aC es 5 stf, cI aC pa 8 yf, cI aC pe 8 ef0, cA aC po 8 fo, cA aC ps 8 fs] (va_pl L (plE aC g))) sz)) 0 0 (va_A (wp [oX9 h1 po pp ps pa pe pb pv pk pu pw pq pt un fw, oX4 pv ek ef ew ep es (nI n) sy dn, cI aC ew 8 wf, cI aC es 5 stf, cI aC pa 8 yf, cI aC pe 8 ef0, cA aC po 8 fo, cA aC ps 8 fs] (va_pl L (plE aC g))) sz) := by
  refine Met.ofW (cc := cX9_end) (maxL := 3) (ret := (none : Option FieldType)) (by decide) rfl ?_
  intro p e s m args below meth c s₁ B hml hv
  obtain ⟨rfl, hsz, hP, hK, hD0, hN⟩ := hv
  have hx := B.exec
  have hb := B.bytes
  have hr := B.returns
  have hts0 := atoms_spec (ws := (wW yX9_end cX9_end 3 (none : Option FieldType))) B.pre
  have hts : ∀ w9 ∈ lw_G, w9.before ([Value.ref h1, Value.int (nI i)] : List Value).toArray s = true := fun w9 h9 => hts0 w9 (List.mem_cons_of_mem _ h9)
  have hown : s.vm.findClass RX9 = some m.cls := findClass_of_methodNamed (x := yX9_end) B.named
  have hlocks := B.notSynchronized
  subst hsz
  have hD := hD0.self (sz := s.heap.size)
  generalize hAe : va_A (wp [oX9 h1 po pp ps pa pe pb pv pk pu pw pq pt un fw, oX4 pv ek ef ew ep es (nI n) sy dn, cI aC ew 8 wf, cI aC es 5 stf, cI aC pa 8 yf, cI aC pe 8 ef0, cA aC po 8 fo, cA aC ps 8 fs] (va_pl L (plE aC g))) s.heap.size = A at hD ⊢
  have hA : ∀ q : Nat, s.heap.size ≤ q → A q := fun q h => by rw [← hAe]; exact Or.inr h
  obtain ⟨H, hHe⟩ : ∃ H : Heap, H = s.heap := ⟨_, rfl⟩
  have hS : va_S A s.heap H [] := by rw [hHe]; exact va_S.rf
  have hP : va_P (dC, dI) classes (wp [oX9 h1 po pp ps pa pe pb pv pk pu pw pq pt un fw, oX4 pv ek ef ew ep es (nI n) sy dn, cI aC ew 8 wf, cI aC es 5 stf, cI aC pa 8 yf, cI aC pe 8 ef0, cA aC po 8 fo, cA aC ps 8 fs] (va_pl L (plE aC g))) H := by rw [hHe]; exact hP
  have hl := lv_entry ([Value.ref h1, Value.int (nI i)]) (n := 3) (Nat.le_of_ble_eq_true rfl)
  rw [lg_entry_eq]
  generalize (lg_sl ([Value.ref h1, Value.int (nI i)]) ++ List.replicate (3 - (lg_sl ([Value.ref h1, Value.int (nI i)])).length) Slot.unset).toArray = ls at hl ⊢
  have hl : lv_has ls 3 [(0, Value.ref h1), (1, Value.int (nI i))] := hl
  rw [← hHe]
  have hn8 := hw.1
  refine lv_iload_n hx hb dX9_end_0 rfl (lv_at hl 1 rfl) ?_
  refine lv_iconst (v := 1) hx hb dX9_end_1 (by decide) ?_
  refine lv_iadd hx hb dX9_end_2 ?_
  refine lv_topi (fun x_1 e_1 => ?_)
  have h9 : x_1 = nI (i + 1) := by rw [e_1, nI_1]
  subst h9
  refine lv_aload_n hx hb dX9_end_3 rfl (lv_at hl 0 rfl) ?_
  refine va_get (D := (dC, dI)) (ci := 9) (v := Value.ref pv) (C := RX9) (T := TX9) (N := 14) hx hb hts inX9 hown hK hP 0 rfl rfl 6 (by decide) (hts _ (gw kw_162 rfl)) (fun _ h9 => h9) rfl dX9_end_4 ?_
  refine va_get (D := (dC, dI)) (ci := 4) (v := Value.int (nI n)) (C := RX4) (T := TX4) (N := 8) hx hb hts inX4 hown hK hP 1 rfl rfl 5 (by decide) (hts _ (gw kw_47 rfl)) (fun _ h9 => h9) rfl dX9_end_7 ?_
  refine lv_icmp_lt (tgt := 17) hx hb dX9_end_10 (by decide) (fun c_2 => ?_) (fun c_2 => ?_)
  · refine lv_iconst (v := 0) hx hb dX9_end_17 (by decide) ?_
    refine lv_istore_n (lv' := [(2, Value.int 0), (0, Value.ref h1), (1, Value.int (nI i))]) hx hb dX9_end_18 rfl hl (by decide) rfl (fun ls hl => ?_)
    refine lv_iload_n hx hb dX9_end_19 rfl (lv_at hl 0 rfl) ?_
    refine lv_if_ne (tgt := 40) hx hb dX9_end_20 (by decide) (fun c_3 => ?_) (fun c_3 => ?_)
    · exact absurd rfl c_3
    · refine lv_aload_n hx hb dX9_end_23 rfl (lv_at hl 1 rfl) ?_
      refine va_get (D := (dC, dI)) (ci := 9) (v := Value.ref pv) (C := RX9) (T := TX9) (N := 14) hx hb hts inX9 hown hK hP 0 rfl rfl 6 (by decide) (hts _ (gw kw_162 rfl)) (fun _ h9 => h9) rfl dX9_end_24 ?_
      refine lv_iload_n hx hb dX9_end_27 rfl (lv_at hl 2 rfl) ?_
      refine lv_aload_n hx hb dX9_end_28 rfl (lv_at hl 1 rfl) ?_
      refine va_get (D := (dC, dI)) (ci := 9) (v := Value.ref pa) (C := RX9) (T := TX9) (N := 14) hx hb hts inX9 hown hK hP 0 rfl rfl 3 (by decide) (hts _ (gw kw_156 rfl)) (fun _ h9 => h9) rfl dX9_end_29 ?_
      refine lv_iload_n hx hb dX9_end_32 rfl (lv_at hl 2 rfl) ?_
      have h_4 : vp_in (nI i) 8 := by first | exact vp_in_nI (by omega) (by omega) | (unfold vp_in; decide) | (subst_vars; first | (unfold vp_in; decide) | exact vp_in_nI (by omega) (by omega))
      refine va_iald hx hb hK hP 4 0 rfl rfl h_4 dX9_end_33 ?_
      refine lv_topi (fun x_5 e_5 => ?_)
      have h9 : x_5 = (yf i) := by rw [e_5, nI_clamp (by omega)]
      subst h9
      have hpd9 := pdf_N (cx := [oX4 pv ek ef ew ep es (nI n) sy dn, cI aC ew 8 wf, cI aC es 5 stf]) hP hD hS hA [1, 2, 3] (by decide) rfl
      have hPc := hpd9.1
      have hDc := hpd9.2.1
      have hFc := hpd9.2.2
      clear hpd9
      refine va_calli (va_runV (As := [Value.int (nI i), Value.int (yf i)]) (rest := []) ⟨hx, hb, hml, hown, hts⟩ (c_X4_isCarried l dC dI aC H.size pv ek ef ew ep es n sy dn wf stf W0 i (yf i) (hw) (by omega)) ⟨(callB_of 2 hts (gG kw_481) rfl rfl rfl (hts _ (gw kw_2 rfl)) (hts _ (gw kw_478 rfl)) hd_X4_isCarried ⟨Nat.le_of_ble_eq_true rfl, Nat.le_of_ble_eq_true rfl⟩), (hts _ (gw kw_479 rfl)), (hts _ (gw kw_480 rfl))⟩ ⟨fb_std, va_recv (q := (RX4, TX4, 8)) hK hPc (ci := 4) (q0 := 0) rfl rfl, pre_std hPc hK hDc hN⟩ rfl rfl hl.1 rfl (lv_room (Nat.le_of_ble_eq_true rfl)) dX9_end_34 ⟨Nat.le_of_ble_eq_true rfl, Nat.le_of_ble_eq_true rfl⟩) hS (fun q _ h => hFc q h) hFc (fun x_6 u9 t9 H1 locs ht hvm hw_6 hB hz1 hk1 hS => ?_)
      obtain ⟨hP1, hK1, hD1⟩ := hB
      rw [ht] at hP1
      clear hK1
      try dsimp only at hw_6
      have hpd9 : PDx (dC, dI) classes A H1 (wp [oX9 h1 po pp ps pa pe pb pv pk pu pw pq pt un fw, cI aC pa 8 yf, cI aC pe 8 ef0, cA aC po 8 fo, cA aC ps 8 fs, oX4 pv ek ef ew ep es (nI n) sy dn, cI aC ew 8 wf, cI aC es 5 stf] (va_pl L (plE aC g))) := jn_Q (wr := [oX9 h1 po pp ps pa pe pb pv pk pu pw pq pt un fw, cI aC pa 8 yf, cI aC pe 8 ef0, cA aC po 8 fo, cA aC ps 8 fs]) hFc hk1 hP1 hD1 hP hD [1, 2, 3] [0, 4, 5, 6, 7] rfl rfl (by decide) (by decide)
      have hP := hpd9.1
      have hD := hpd9.2
      clear hpd9
      generalize H1 = H at hP hS ⊢
      clear hPc hDc hFc hz1 hk1 hP1 hD1 ht hvm
      have hz_34 := hw_6
      refine lv_if_eq (tgt := 69) hx hb dX9_end_37 (by decide) (fun c_7 => ?_) (fun c_7 => ?_)
      · have hlt : i + 1 < n := (nI_ltI (by omega) (by omega)).mp c_2
        have hncar : ¬ (n ≤ i + 1 ∨ nd (stf 1) (sumr W0 i (n - i)) ≤ yw W0 (yf i) i (n - i)) := fun h => by
          rcases h with h | h
          · omega
          · exact absurd (hz_34.symm.trans c_7) (by rw [if_pos h]; decide)
        refine lv_aload_n hx hb dX9_end_69 rfl (lv_at hl 1 rfl) ?_
        refine va_get (D := (dC, dI)) (ci := 9) (v := Value.ref pe) (C := RX9) (T := TX9) (N := 14) hx hb hts inX9 hown hK hP 0 rfl rfl 4 (by decide) (hts _ (gw kw_158 rfl)) (fun _ h9 => h9) rfl dX9_end_70 ?_
        refine lv_iload_n hx hb dX9_end_73 rfl (lv_at hl 2 rfl) ?_
        refine lv_aload_n hx hb dX9_end_74 rfl (lv_at hl 1 rfl) ?_
        refine va_get (D := (dC, dI)) (ci := 9) (v := Value.ref pe) (C := RX9) (T := TX9) (N := 14) hx hb hts inX9 hown hK hP 0 rfl rfl 4 (by decide) (hts _ (gw kw_158 rfl)) (fun _ h9 => h9) rfl dX9_end_75 ?_
        refine lv_iload_n hx hb dX9_end_78 rfl (lv_at hl 2 rfl) ?_
        refine lv_iconst (v := 1) hx hb dX9_end_79 (by decide) ?_
        refine lv_iadd hx hb dX9_end_80 ?_
        refine lv_topi (fun x_8 e_8 => ?_)
        have h9 : x_8 = nI (i + 1) := by rw [e_8, nI_1]
        subst h9
        have h_9 : vp_in (nI (i + 1)) 8 := by first | exact vp_in_nI (by omega) (by omega) | (unfold vp_in; decide) | (subst_vars; first | (unfold vp_in; decide) | exact vp_in_nI (by omega) (by omega))
        refine va_iald hx hb hK hP 2 0 rfl rfl h_9 dX9_end_81 ?_
        refine lv_topi (fun x_10 e_10 => ?_)
        have h_11 : vp_in (nI i) 8 := by first | exact vp_in_nI (by omega) (by omega) | (unfold vp_in; decide) | (subst_vars; first | (unfold vp_in; decide) | exact vp_in_nI (by omega) (by omega))
        refine va_iast hx hb hK hP hD hS 2 0 rfl rfl h_11 dX9_end_82 (fun H locs hP hD hS => ?_)
        obtain ⟨f_12, e_f_12⟩ : ∃ y : Nat → Int32, y = upd ef0 (nI i : Int32).toNatClampNeg x_10 := ⟨_, rfl⟩
        have hpd9 : PDx (dC, dI) classes A H (wp [oX9 h1 po pp ps pa pe pb pv pk pu pw pq pt un fw, cI aC pa 8 yf, cI aC pe 8 f_12, cA aC po 8 fo, cA aC ps 8 fs, oX4 pv ek ef ew ep es (nI n) sy dn, cI aC ew 8 wf, cI aC es 5 stf] (va_pl L (plE aC g))) := by rw [e_f_12]; exact ⟨hP, hD⟩
        have hP := hpd9.1
        have hD := hpd9.2
        clear hpd9
        refine lv_aload_n hx hb dX9_end_83 rfl (lv_at hl 1 rfl) ?_
        refine va_get (D := (dC, dI)) (ci := 9) (v := Value.ref ps) (C := RX9) (T := TX9) (N := 14) hx hb hts inX9 hown hK hP 0 rfl rfl 2 (by decide) (hts _ (gw kw_154 rfl)) (fun _ h9 => h9) rfl dX9_end_84 ?_
        refine lv_iload_n hx hb dX9_end_87 rfl (lv_at hl 2 rfl) ?_
        refine lv_iconst (v := 1) hx hb dX9_end_88 (by decide) ?_
        refine lv_iadd hx hb dX9_end_89 ?_
        refine lv_topi (fun x_13 e_13 => ?_)
        have h9 : x_13 = nI (i + 1) := by rw [e_13, nI_1]
        subst h9
        have h_14 : vp_in (nI (i + 1)) 8 := by first | exact vp_in_nI (by omega) (by omega) | (unfold vp_in; decide) | (subst_vars; first | (unfold vp_in; decide) | exact vp_in_nI (by omega) (by omega))
        refine va_alda (r := rs (i + 1)) hx hb hK hP 4 rfl h_14 (by rw [nI_clamp (by omega)]; exact (hgr.1 (i + 1) (by omega)).2.2.1) dX9_end_90 ?_
        refine lv_iconst (v := 0) hx hb dX9_end_91 (by decide) ?_
        refine lv_aload_n hx hb dX9_end_92 rfl (lv_at hl 1 rfl) ?_
        refine va_get (D := (dC, dI)) (ci := 9) (v := Value.ref ps) (C := RX9) (T := TX9) (N := 14) hx hb hts inX9 hown hK hP 0 rfl rfl 2 (by decide) (hts _ (gw kw_154 rfl)) (fun _ h9 => h9) rfl dX9_end_93 ?_
        refine lv_iload_n hx hb dX9_end_96 rfl (lv_at hl 2 rfl) ?_
        have h_15 : vp_in (nI i) 8 := by first | exact vp_in_nI (by omega) (by omega) | (unfold vp_in; decide) | (subst_vars; first | (unfold vp_in; decide) | exact vp_in_nI (by omega) (by omega))
        refine va_alda (r := rs i) hx hb hK hP 4 rfl h_15 (by rw [nI_clamp (by omega)]; exact (hgr.1 i (by omega)).2.2.1) dX9_end_97 ?_
        refine lv_iconst (v := 0) hx hb dX9_end_98 (by decide) ?_
        refine lv_bipush (v := 8) hx hb dX9_end_99 (by decide) ?_
        refine pl_copyi hx hb (by rw [hml]; exact hl.1.symm) hown (hts _ (gw kw_484 rfl)) (hts _ (gw kw_486 rfl)) (hts _ (gw kw_485 rfl)) (hts _ (gw kw_16 rfl)) hK hP hD hS ((hgr.1 (i + 1) (by omega)).2.2.2) ((hgr.1 i (by omega)).2.2.2) (Nat.le_of_ble_eq_true rfl) (Nat.le_of_ble_eq_true rfl) dX9_end_101 (fun H locs hP hD hS => ?_)
        obtain ⟨g_16, e_g_16⟩ : ∃ y : Nat → Nat → Int32, y = va_up g (rs i) (va_cpy (g (rs (i + 1))) (g (rs i)) 0 0 8) := ⟨_, rfl⟩
        have hpd9 : PDx (dC, dI) classes A H (wp [oX9 h1 po pp ps pa pe pb pv pk pu pw pq pt un fw, cI aC pa 8 yf, cI aC pe 8 f_12, cA aC po 8 fo, cA aC ps 8 fs, oX4 pv ek ef ew ep es (nI n) sy dn, cI aC ew 8 wf, cI aC es 5 stf] (va_pl L (plE aC g_16))) := by rw [e_g_16]; exact ⟨hP, hD⟩
        have hP := hpd9.1
        have hD := hpd9.2
        clear hpd9
        refine lv_aload_n hx hb dX9_end_104 rfl (lv_at hl 1 rfl) ?_
        refine va_get (D := (dC, dI)) (ci := 9) (v := Value.ref ps) (C := RX9) (T := TX9) (N := 14) hx hb hts inX9 hown hK hP 0 rfl rfl 2 (by decide) (hts _ (gw kw_154 rfl)) (fun _ h9 => h9) rfl dX9_end_105 ?_
        refine lv_iload_n hx hb dX9_end_108 rfl (lv_at hl 2 rfl) ?_
        have h_17 : vp_in (nI i) 8 := by first | exact vp_in_nI (by omega) (by omega) | (unfold vp_in; decide) | (subst_vars; first | (unfold vp_in; decide) | exact vp_in_nI (by omega) (by omega))
        refine va_alda (r := rs i) hx hb hK hP 4 rfl h_17 (by rw [nI_clamp (by omega)]; exact (hgr.1 i (by omega)).2.2.1) dX9_end_109 ?_
        refine lv_iload_n hx hb dX9_end_110 rfl (lv_at hl 2 rfl) ?_
        refine lv_iconst (v := -1) hx hb dX9_end_111 (by decide) ?_
        have h_18 : vp_in (nI i) 8 := by first | exact vp_in_nI (by omega) (by omega) | (unfold vp_in; decide) | (subst_vars; first | (unfold vp_in; decide) | exact vp_in_nI (by omega) (by omega))
        refine pl_iast hx hb hK hP hD hS ((hgr.1 i (by omega)).2.2.2) h_18 dX9_end_112 (fun H locs hP hD hS => ?_)
        obtain ⟨g_19, e_g_19⟩ : ∃ y : Nat → Nat → Int32, y = va_up g_16 (rs i) (upd (g_16 (rs i)) (nI i : Int32).toNatClampNeg (-1)) := ⟨_, rfl⟩
        have hpd9 : PDx (dC, dI) classes A H (wp [oX9 h1 po pp ps pa pe pb pv pk pu pw pq pt un fw, cI aC pa 8 yf, cI aC pe 8 f_12, cA aC po 8 fo, cA aC ps 8 fs, oX4 pv ek ef ew ep es (nI n) sy dn, cI aC ew 8 wf, cI aC es 5 stf] (va_pl L (plE aC g_19))) := by rw [e_g_19]; exact ⟨hP, hD⟩
        have hP := hpd9.1
        have hD := hpd9.2
        clear hpd9
        have hpd9 := pd_P (cx := [oX9 h1 po pp ps pa pe pb pv pk pu pw pq pt un fw, oX4 pv ek ef ew ep es (nI n) sy dn, cI aC ew 8 wf, cI aC es 5 stf, cI aC pa 8 yf, cI aC pe 8 f_12, cA aC po 8 fo, cA aC ps 8 fs]) hP hD [0, 5, 6, 7, 1, 2, 3, 4] (by decide) rfl
        have hP9 := hpd9.1
        have hD9 := hpd9.2
        refine W.widen (k := 0) (n := 0) (by omega) (by omega) ?_
        exact W.vret hx hb hr (fun t ht hW => ⟨⟨(f_12, g_19), rfl, ⟨fun h => absurd h hncar, fun _ => ⟨by rw [e_f_12, nI_clamp (by omega), pk_us, e_10, nI_clamp (by omega)], fun q hq => by rw [e_g_19, nI_clamp (by omega), up_s]; by_cases e : q = i <;> first | (rw [e, pk_us, if_pos rfl]; done) | (rw [pk_un e, if_neg e, e_g_16, up_s]; exact sb_cpy0 hq)⟩, fun q h => by rw [e_f_12, nI_clamp (by omega), pk_un h], fun a h => by rw [e_g_19, up_n h, e_g_16, up_n h]⟩, by rw [ht]; exact hP9, va_K.moved hW.alike hK, hD9⟩, hS.F ht⟩) hS.2.2 dX9_end_113
      · have hcar : nd (stf 1) (sumr W0 i (n - i)) ≤ yw W0 (yf i) i (n - i) := by
          by_cases q : nd (stf 1) (sumr W0 i (n - i)) ≤ yw W0 (yf i) i (n - i)
          · exact q
          · exact absurd (by rw [hz_34, if_neg q]) c_7
        refine lv_aload_n hx hb dX9_end_40 rfl (lv_at hl 1 rfl) ?_
        refine va_get (D := (dC, dI)) (ci := 9) (v := Value.ref pe) (C := RX9) (T := TX9) (N := 14) hx hb hts inX9 hown hK hP 0 rfl rfl 4 (by decide) (hts _ (gw kw_158 rfl)) (fun _ h9 => h9) rfl dX9_end_41 ?_
        refine lv_iload_n hx hb dX9_end_44 rfl (lv_at hl 2 rfl) ?_
        refine lv_iload_n hx hb dX9_end_45 rfl (lv_at hl 2 rfl) ?_
        have h_20 : vp_in (nI i) 8 := by first | exact vp_in_nI (by omega) (by omega) | (unfold vp_in; decide) | (subst_vars; first | (unfold vp_in; decide) | exact vp_in_nI (by omega) (by omega))
        refine va_iast hx hb hK hP hD hS 2 0 rfl rfl h_20 dX9_end_46 (fun H locs hP hD hS => ?_)
        obtain ⟨f_21, e_f_21⟩ : ∃ y : Nat → Int32, y = upd ef0 (nI i : Int32).toNatClampNeg (nI i) := ⟨_, rfl⟩
        have hpd9 : PDx (dC, dI) classes A H (wp [oX9 h1 po pp ps pa pe pb pv pk pu pw pq pt un fw, cI aC pa 8 yf, cI aC pe 8 f_21, cA aC po 8 fo, cA aC ps 8 fs, oX4 pv ek ef ew ep es (nI n) sy dn, cI aC ew 8 wf, cI aC es 5 stf] (va_pl L (plE aC g))) := by rw [e_f_21]; exact ⟨hP, hD⟩
        have hP := hpd9.1
        have hD := hpd9.2
        clear hpd9
        refine lv_aload_n hx hb dX9_end_47 rfl (lv_at hl 1 rfl) ?_
        refine va_get (D := (dC, dI)) (ci := 9) (v := Value.ref po) (C := RX9) (T := TX9) (N := 14) hx hb hts inX9 hown hK hP 0 rfl rfl 0 (by decide) (hts _ (gw kw_150 rfl)) (fun _ h9 => h9) rfl dX9_end_48 ?_
        refine lv_iload_n hx hb dX9_end_51 rfl (lv_at hl 2 rfl) ?_
        have h_22 : vp_in (nI i) 8 := by first | exact vp_in_nI (by omega) (by omega) | (unfold vp_in; decide) | (subst_vars; first | (unfold vp_in; decide) | exact vp_in_nI (by omega) (by omega))
        refine va_alda (r := ro i) hx hb hK hP 3 rfl h_22 (by rw [nI_clamp (by omega)]; exact (hgr.1 i (by omega)).1.1) dX9_end_52 ?_
        refine lv_iconst (v := 0) hx hb dX9_end_53 (by decide) ?_
        refine lv_aload_n hx hb dX9_end_54 rfl (lv_at hl 1 rfl) ?_
        refine va_get (D := (dC, dI)) (ci := 9) (v := Value.ref ps) (C := RX9) (T := TX9) (N := 14) hx hb hts inX9 hown hK hP 0 rfl rfl 2 (by decide) (hts _ (gw kw_154 rfl)) (fun _ h9 => h9) rfl dX9_end_55 ?_
        refine lv_iload_n hx hb dX9_end_58 rfl (lv_at hl 2 rfl) ?_
        have h_23 : vp_in (nI i) 8 := by first | exact vp_in_nI (by omega) (by omega) | (unfold vp_in; decide) | (subst_vars; first | (unfold vp_in; decide) | exact vp_in_nI (by omega) (by omega))
        refine va_alda (r := rs i) hx hb hK hP 4 rfl h_23 (by rw [nI_clamp (by omega)]; exact (hgr.1 i (by omega)).2.2.1) dX9_end_59 ?_
        refine lv_iconst (v := 0) hx hb dX9_end_60 (by decide) ?_
        refine lv_bipush (v := 8) hx hb dX9_end_61 (by decide) ?_
        refine pl_copyi hx hb (by rw [hml]; exact hl.1.symm) hown (hts _ (gw kw_484 rfl)) (hts _ (gw kw_486 rfl)) (hts _ (gw kw_485 rfl)) (hts _ (gw kw_16 rfl)) hK hP hD hS ((hgr.1 i (by omega)).1.2) ((hgr.1 i (by omega)).2.2.2) (Nat.le_of_ble_eq_true rfl) (Nat.le_of_ble_eq_true rfl) dX9_end_63 (fun H locs hP hD hS => ?_)
        obtain ⟨g_24, e_g_24⟩ : ∃ y : Nat → Nat → Int32, y = va_up g (rs i) (va_cpy (g (ro i)) (g (rs i)) 0 0 8) := ⟨_, rfl⟩
        have hpd9 : PDx (dC, dI) classes A H (wp [oX9 h1 po pp ps pa pe pb pv pk pu pw pq pt un fw, cI aC pa 8 yf, cI aC pe 8 f_21, cA aC po 8 fo, cA aC ps 8 fs, oX4 pv ek ef ew ep es (nI n) sy dn, cI aC ew 8 wf, cI aC es 5 stf] (va_pl L (plE aC g_24))) := by rw [e_g_24]; exact ⟨hP, hD⟩
        have hP := hpd9.1
        have hD := hpd9.2
        clear hpd9
        refine lv_goto (tgt := 113) hx hb dX9_end_66 (by decide) ?_
        have hpd9 := pd_P (cx := [oX9 h1 po pp ps pa pe pb pv pk pu pw pq pt un fw, oX4 pv ek ef ew ep es (nI n) sy dn, cI aC ew 8 wf, cI aC es 5 stf, cI aC pa 8 yf, cI aC pe 8 f_21, cA aC po 8 fo, cA aC ps 8 fs]) hP hD [0, 5, 6, 7, 1, 2, 3, 4] (by decide) rfl
        have hP9 := hpd9.1
        have hD9 := hpd9.2
        refine W.widen (k := 0) (n := 0) (by omega) (by omega) ?_
        exact W.vret hx hb hr (fun t ht hW => ⟨⟨(f_21, g_24), rfl, ⟨fun _ => ⟨by rw [e_f_21, nI_clamp (by omega), pk_us], fun q hq => by rw [e_g_24, up_s]; exact sb_cpy0 hq⟩, fun h => absurd (Or.inr hcar) h, fun q h => by rw [e_f_21, nI_clamp (by omega), pk_un h], fun a h => by rw [e_g_24, up_n h]⟩, by rw [ht]; exact hP9, va_K.moved hW.alike hK, hD9⟩, hS.F ht⟩) hS.2.2 dX9_end_113
  · refine lv_iconst (v := 1) hx hb dX9_end_13 (by decide) ?_
    refine lv_goto (tgt := 18) hx hb dX9_end_14 (by decide) ?_
    refine lv_istore_n (lv' := [(2, Value.int 1), (0, Value.ref h1), (1, Value.int (nI i))]) hx hb dX9_end_18 rfl hl (by decide) rfl (fun ls hl => ?_)
    refine lv_iload_n hx hb dX9_end_19 rfl (lv_at hl 0 rfl) ?_
    refine lv_if_ne (tgt := 40) hx hb dX9_end_20 (by decide) (fun c_25 => ?_) (fun c_25 => ?_)
    · have hlast : n ≤ i + 1 := by
        rcases Nat.lt_or_ge (i + 1) n with q | q
        · exact absurd (nI_lt q (by omega)) c_2
        · exact q
      refine lv_aload_n hx hb dX9_end_40 rfl (lv_at hl 1 rfl) ?_
      refine va_get (D := (dC, dI)) (ci := 9) (v := Value.ref pe) (C := RX9) (T := TX9) (N := 14) hx hb hts inX9 hown hK hP 0 rfl rfl 4 (by decide) (hts _ (gw kw_158 rfl)) (fun _ h9 => h9) rfl dX9_end_41 ?_
      refine lv_iload_n hx hb dX9_end_44 rfl (lv_at hl 2 rfl) ?_
      refine lv_iload_n hx hb dX9_end_45 rfl (lv_at hl 2 rfl) ?_
      have h_26 : vp_in (nI i) 8 := by first | exact vp_in_nI (by omega) (by omega) | (unfold vp_in; decide) | (subst_vars; first | (unfold vp_in; decide) | exact vp_in_nI (by omega) (by omega))
      refine va_iast hx hb hK hP hD hS 5 0 rfl rfl h_26 dX9_end_46 (fun H locs hP hD hS => ?_)
      obtain ⟨f_27, e_f_27⟩ : ∃ y : Nat → Int32, y = upd ef0 (nI i : Int32).toNatClampNeg (nI i) := ⟨_, rfl⟩
      have hpd9 : PDx (dC, dI) classes A H (wp [oX9 h1 po pp ps pa pe pb pv pk pu pw pq pt un fw, oX4 pv ek ef ew ep es (nI n) sy dn, cI aC ew 8 wf, cI aC es 5 stf, cI aC pa 8 yf, cI aC pe 8 f_27, cA aC po 8 fo, cA aC ps 8 fs] (va_pl L (plE aC g))) := by rw [e_f_27]; exact ⟨hP, hD⟩
      have hP := hpd9.1
      have hD := hpd9.2
      clear hpd9
      refine lv_aload_n hx hb dX9_end_47 rfl (lv_at hl 1 rfl) ?_
      refine va_get (D := (dC, dI)) (ci := 9) (v := Value.ref po) (C := RX9) (T := TX9) (N := 14) hx hb hts inX9 hown hK hP 0 rfl rfl 0 (by decide) (hts _ (gw kw_150 rfl)) (fun _ h9 => h9) rfl dX9_end_48 ?_
      refine lv_iload_n hx hb dX9_end_51 rfl (lv_at hl 2 rfl) ?_
      have h_28 : vp_in (nI i) 8 := by first | exact vp_in_nI (by omega) (by omega) | (unfold vp_in; decide) | (subst_vars; first | (unfold vp_in; decide) | exact vp_in_nI (by omega) (by omega))
      refine va_alda (r := ro i) hx hb hK hP 6 rfl h_28 (by rw [nI_clamp (by omega)]; exact (hgr.1 i (by omega)).1.1) dX9_end_52 ?_
      refine lv_iconst (v := 0) hx hb dX9_end_53 (by decide) ?_
      refine lv_aload_n hx hb dX9_end_54 rfl (lv_at hl 1 rfl) ?_
      refine va_get (D := (dC, dI)) (ci := 9) (v := Value.ref ps) (C := RX9) (T := TX9) (N := 14) hx hb hts inX9 hown hK hP 0 rfl rfl 2 (by decide) (hts _ (gw kw_154 rfl)) (fun _ h9 => h9) rfl dX9_end_55 ?_
      refine lv_iload_n hx hb dX9_end_58 rfl (lv_at hl 2 rfl) ?_
      have h_29 : vp_in (nI i) 8 := by first | exact vp_in_nI (by omega) (by omega) | (unfold vp_in; decide) | (subst_vars; first | (unfold vp_in; decide) | exact vp_in_nI (by omega) (by omega))
      refine va_alda (r := rs i) hx hb hK hP 7 rfl h_29 (by rw [nI_clamp (by omega)]; exact (hgr.1 i (by omega)).2.2.1) dX9_end_59 ?_
      refine lv_iconst (v := 0) hx hb dX9_end_60 (by decide) ?_
      refine lv_bipush (v := 8) hx hb dX9_end_61 (by decide) ?_
      refine pl_copyi hx hb (by rw [hml]; exact hl.1.symm) hown (hts _ (gw kw_484 rfl)) (hts _ (gw kw_486 rfl)) (hts _ (gw kw_485 rfl)) (hts _ (gw kw_16 rfl)) hK hP hD hS ((hgr.1 i (by omega)).1.2) ((hgr.1 i (by omega)).2.2.2) (Nat.le_of_ble_eq_true rfl) (Nat.le_of_ble_eq_true rfl) dX9_end_63 (fun H locs hP hD hS => ?_)
      obtain ⟨g_30, e_g_30⟩ : ∃ y : Nat → Nat → Int32, y = va_up g (rs i) (va_cpy (g (ro i)) (g (rs i)) 0 0 8) := ⟨_, rfl⟩
      have hpd9 : PDx (dC, dI) classes A H (wp [oX9 h1 po pp ps pa pe pb pv pk pu pw pq pt un fw, oX4 pv ek ef ew ep es (nI n) sy dn, cI aC ew 8 wf, cI aC es 5 stf, cI aC pa 8 yf, cI aC pe 8 f_27, cA aC po 8 fo, cA aC ps 8 fs] (va_pl L (plE aC g_30))) := by rw [e_g_30]; exact ⟨hP, hD⟩
      have hP := hpd9.1
      have hD := hpd9.2
      clear hpd9
      refine lv_goto (tgt := 113) hx hb dX9_end_66 (by decide) ?_
      have hpd9 := pd_P (cx := [oX9 h1 po pp ps pa pe pb pv pk pu pw pq pt un fw, oX4 pv ek ef ew ep es (nI n) sy dn, cI aC ew 8 wf, cI aC es 5 stf, cI aC pa 8 yf, cI aC pe 8 f_27, cA aC po 8 fo, cA aC ps 8 fs]) hP hD [0, 1, 2, 3, 4, 5, 6, 7] (by decide) rfl
      have hP9 := hpd9.1
      have hD9 := hpd9.2
      refine W.widen (k := 0) (n := 0) (by omega) (by omega) ?_
      exact W.vret hx hb hr (fun t ht hW => ⟨⟨(f_27, g_30), rfl, ⟨fun _ => ⟨by rw [e_f_27, nI_clamp (by omega), pk_us], fun q hq => by rw [e_g_30, up_s]; exact sb_cpy0 hq⟩, fun h => absurd (Or.inl hlast) h, fun q h => by rw [e_f_27, nI_clamp (by omega), pk_un h], fun a h => by rw [e_g_30, up_n h]⟩, by rw [ht]; exact hP9, va_K.moved hW.alike hK, hD9⟩, hS.F ht⟩) hS.2.2 dX9_end_113
    · exact absurd c_25 (by decide)
