set_option maxHeartbeats 1000000 in
set_option maxRecDepth 100000 in
/-- X11_isEnough -/
theorem c_X11_isEnough (l : Launch) (dC : Nat → ClassId) (dI : Nat → Nat → Nat) (aC : Nat → ClassId) (sz : Nat) (law : Int32) (y : Nat) (a : Nat) (hy : y ≤ 1000) (ha : a ≤ 1000) : Met l yX11_isEnough (wW yX11_isEnough cX11_isEnough 3 (some .boolean)) ({ frames := 0, cells := 0, slots := 0, locals := 0 } : Room) (va_Pc [Value.int law, Value.int (nI y), Value.int (nI a)] (fun U => U.heap.size = sz ∧ va_P (dC, dI) classes [] U.heap ∧ va_K (dC, dI) classes (TY aC) U ∧ va_D (fun _ => True) [] ∧ NX U)) (va_Qi (fun (r : Int32) (_ : Unit) => r = if nd law a ≤ y then 1 else 0) (fun (_ : Unit) (t : State) => va_P (dC, dI) classes [] t.heap ∧ va_K (dC, dI) classes (TY aC) t ∧ va_D (va_A [] sz) []) (va_A [] sz)) 0 0 (va_A [] sz) := by
  refine Met.ofW (cc := cX11_isEnough) (maxL := 3) (ret := (some .boolean)) (by decide) rfl ?_
  intro p e s m args below meth c s₁ B hml hv
  obtain ⟨rfl, hsz, hP, hK, hD0, hN⟩ := hv
  have hx := B.exec
  have hb := B.bytes
  have hr := B.returns
  have hts0 := atoms_spec (ws := (wW yX11_isEnough cX11_isEnough 3 (some .boolean))) B.pre
  have hts : ∀ w9 ∈ lw_G, w9.before ([Value.int law, Value.int (nI y), Value.int (nI a)] : List Value).toArray s = true := fun w9 h9 => hts0 w9 (List.mem_cons_of_mem _ h9)
  have hown : s.vm.findClass RX11 = some m.cls := findClass_of_methodNamed (x := yX11_isEnough) B.named
  have hlocks := B.notSynchronized
  subst hsz
  have hD := hD0.self (sz := s.heap.size)
  generalize hAe : va_A [] s.heap.size = A at hD ⊢
  have hA : ∀ q : Nat, s.heap.size ≤ q → A q := fun q h => by rw [← hAe]; exact Or.inr h
  obtain ⟨H, hHe⟩ : ∃ H : Heap, H = s.heap := ⟨_, rfl⟩
  have hS : va_S A s.heap H [] := by rw [hHe]; exact va_S.rf
  have hP : va_P (dC, dI) classes [] H := by rw [hHe]; exact hP
  have hl := lv_entry ([Value.int law, Value.int (nI y), Value.int (nI a)]) (n := 3) (Nat.le_of_ble_eq_true rfl)
  rw [lg_entry_eq]
  generalize (lg_sl ([Value.int law, Value.int (nI y), Value.int (nI a)]) ++ List.replicate (3 - (lg_sl ([Value.int law, Value.int (nI y), Value.int (nI a)])).length) Slot.unset).toArray = ls at hl ⊢
  have hl : lv_has ls 3 [(0, Value.int law), (1, Value.int (nI y)), (2, Value.int (nI a))] := hl
  rw [← hHe]
  refine lv_iload_n hx hb dX11_isEnough_0 rfl (lv_at hl 0 rfl) ?_
  by_cases c_1 : law = 0
  · refine lv_lookup (off := 27) (tgt := 28) hx hb dX11_isEnough_1 (by decide) (by rw [c_1]; decide) (by decide) ?_
    refine lv_iconst (v := 2) hx hb dX11_isEnough_28 (by decide) ?_
    refine lv_iload_n hx hb dX11_isEnough_29 rfl (lv_at hl 1 rfl) ?_
    refine lv_imul hx hb dX11_isEnough_30 ?_
    refine lv_topi (fun x_2 e_2 => ?_)
    refine lv_iload_n hx hb dX11_isEnough_31 rfl (lv_at hl 2 rfl) ?_
    refine lv_icmp_lt (tgt := 39) hx hb dX11_isEnough_32 (by decide) (fun c_3 => ?_) (fun c_3 => ?_)
    · refine lv_iconst (v := 0) hx hb dX11_isEnough_39 (by decide) ?_
      have hpd9 := pd_N (cx := []) hP hD [] (by decide) rfl
      have hP9 := hpd9.1
      have hD9 := hpd9.2
      refine W.widen (k := 0) (n := 0) (by omega) (by omega) ?_
      exact W.zret (v := 0) hx hb hr rfl (fun t ht hW => ⟨⟨0, (), rfl, by have h8 := c_3; rw [e_2, en_0 ha hy] at h8; unfold nd; rw [if_pos c_1]; simp [h8], by rw [ht]; exact hP9, va_K.moved hW.alike hK, hD9⟩, hS.F ht⟩) hS.2.2 dX11_isEnough_40
    · refine lv_iconst (v := 1) hx hb dX11_isEnough_35 (by decide) ?_
      refine lv_goto (tgt := 40) hx hb dX11_isEnough_36 (by decide) ?_
      have hpd9 := pd_N (cx := []) hP hD [] (by decide) rfl
      have hP9 := hpd9.1
      have hD9 := hpd9.2
      refine W.widen (k := 0) (n := 0) (by omega) (by omega) ?_
      exact W.zret (v := 1) hx hb hr rfl (fun t ht hW => ⟨⟨1, (), rfl, by have h8 := c_3; rw [e_2, en_0 ha hy] at h8; unfold nd; rw [if_pos c_1]; simp [h8], by rw [ht]; exact hP9, va_K.moved hW.alike hK, hD9⟩, hS.F ht⟩) hS.2.2 dX11_isEnough_40
  by_cases c_4 : law = 1
  · refine lv_lookup (off := 40) (tgt := 41) hx hb dX11_isEnough_1 (by decide) (by rw [c_4]; decide) (by decide) ?_
    refine lv_iconst (v := 2) hx hb dX11_isEnough_41 (by decide) ?_
    refine lv_iload_n hx hb dX11_isEnough_42 rfl (lv_at hl 1 rfl) ?_
    refine lv_imul hx hb dX11_isEnough_43 ?_
    refine lv_topi (fun x_5 e_5 => ?_)
    refine lv_iload_n hx hb dX11_isEnough_44 rfl (lv_at hl 2 rfl) ?_
    refine lv_icmp_le (tgt := 52) hx hb dX11_isEnough_45 (by decide) (fun c_6 => ?_) (fun c_6 => ?_)
    · refine lv_iconst (v := 0) hx hb dX11_isEnough_52 (by decide) ?_
      have hpd9 := pd_N (cx := []) hP hD [] (by decide) rfl
      have hP9 := hpd9.1
      have hD9 := hpd9.2
      refine W.widen (k := 0) (n := 0) (by omega) (by omega) ?_
      exact W.zret (v := 0) hx hb hr rfl (fun t ht hW => ⟨⟨0, (), rfl, by have h8 := c_6; rw [e_5, en_1 ha hy] at h8; unfold nd; rw [if_neg c_1, if_pos c_4]; simp [h8], by rw [ht]; exact hP9, va_K.moved hW.alike hK, hD9⟩, hS.F ht⟩) hS.2.2 dX11_isEnough_53
    · refine lv_iconst (v := 1) hx hb dX11_isEnough_48 (by decide) ?_
      refine lv_goto (tgt := 53) hx hb dX11_isEnough_49 (by decide) ?_
      have hpd9 := pd_N (cx := []) hP hD [] (by decide) rfl
      have hP9 := hpd9.1
      have hD9 := hpd9.2
      refine W.widen (k := 0) (n := 0) (by omega) (by omega) ?_
      exact W.zret (v := 1) hx hb hr rfl (fun t ht hW => ⟨⟨1, (), rfl, by have h8 := c_6; rw [e_5, en_1 ha hy] at h8; unfold nd; rw [if_neg c_1, if_pos c_4]; simp [h8], by rw [ht]; exact hP9, va_K.moved hW.alike hK, hD9⟩, hS.F ht⟩) hS.2.2 dX11_isEnough_53
  refine lv_lookup (off := 53) (tgt := 54) hx hb dX11_isEnough_1 (by decide) (by rw [lv_osw c_1 (by decide)]; rw [lv_osw c_4 (by decide)]; rfl) (by decide) ?_
  refine lv_iconst (v := 3) hx hb dX11_isEnough_54 (by decide) ?_
  refine lv_iload_n hx hb dX11_isEnough_55 rfl (lv_at hl 1 rfl) ?_
  refine lv_imul hx hb dX11_isEnough_56 ?_
  refine lv_topi (fun x_7 e_7 => ?_)
  refine lv_iconst (v := 2) hx hb dX11_isEnough_57 (by decide) ?_
  refine lv_iload_n hx hb dX11_isEnough_58 rfl (lv_at hl 2 rfl) ?_
  refine lv_imul hx hb dX11_isEnough_59 ?_
  refine lv_topi (fun x_8 e_8 => ?_)
  refine lv_icmp_lt (tgt := 67) hx hb dX11_isEnough_60 (by decide) (fun c_9 => ?_) (fun c_9 => ?_)
  · refine lv_iconst (v := 0) hx hb dX11_isEnough_67 (by decide) ?_
    have hpd9 := pd_N (cx := []) hP hD [] (by decide) rfl
    have hP9 := hpd9.1
    have hD9 := hpd9.2
    refine W.widen (k := 0) (n := 0) (by omega) (by omega) ?_
    exact W.zret (v := 0) hx hb hr rfl (fun t ht hW => ⟨⟨0, (), rfl, by have h8 := c_9; rw [e_7, e_8, en_2 ha hy] at h8; unfold nd; rw [if_neg c_1, if_neg c_4]; simp [h8], by rw [ht]; exact hP9, va_K.moved hW.alike hK, hD9⟩, hS.F ht⟩) hS.2.2 dX11_isEnough_68
  · refine lv_iconst (v := 1) hx hb dX11_isEnough_63 (by decide) ?_
    refine lv_goto (tgt := 68) hx hb dX11_isEnough_64 (by decide) ?_
    have hpd9 := pd_N (cx := []) hP hD [] (by decide) rfl
    have hP9 := hpd9.1
    have hD9 := hpd9.2
    refine W.widen (k := 0) (n := 0) (by omega) (by omega) ?_
    exact W.zret (v := 1) hx hb hr rfl (fun t ht hW => ⟨⟨1, (), rfl, by have h8 := c_9; rw [e_7, e_8, en_2 ha hy] at h8; unfold nd; rw [if_neg c_1, if_neg c_4]; simp [h8], by rw [ht]; exact hP9, va_K.moved hW.alike hK, hD9⟩, hS.F ht⟩) hS.2.2 dX11_isEnough_68

set_option maxHeartbeats 1000000 in
set_option maxRecDepth 100000 in
/-- J7_fill_p -/
theorem c_J7_fill_p (l : Launch) (dC : Nat → ClassId) (dI : Nat → Nat → Nat) (aC : Nat → ClassId) (sz : Nat) (L : List Nat) (g : Nat → Nat → Int32) (ra : Nat) (v : Int32) (hm : ra ∈ L) : Met l yJ7_fill_53178 (wW yJ7_fill_53178 cJ7_fill_53178 4 (none : Option FieldType)) ({ frames := 0, cells := 0, slots := 0, locals := 0 } : Room) (va_Pc [Value.ref ra, Value.int v] (fun U => U.heap.size = sz ∧ va_P (dC, dI) classes (wp [] (va_pl L (plE aC g))) U.heap ∧ va_K (dC, dI) classes (TY aC) U ∧ va_D (fun _ => True) (wp [] (va_pl L (plE aC g))) ∧ NX U)) (va_Qv (fun (g2 : Nat → Nat → Int32) => (∀ j, j < 8 → g2 ra j = v) ∧ ∀ a, a ≠ ra → g2 a = g a) (fun (g2 : Nat → Nat → Int32) (t : State) => va_P (dC, dI) classes (wp [] (va_pl L (plE aC g2))) t.heap ∧ va_K (dC, dI) classes (TY aC) t ∧ va_D (va_A (wp [] (va_pl L (plE aC g))) sz) (wp [] (va_pl L (plE aC g2)))) (va_A (wp [] (va_pl L (plE aC g))) sz)) 0 0 (va_A (wp [] (va_pl L (plE aC g))) sz) := by
  refine Met.ofW (cc := cJ7_fill_53178) (maxL := 4) (ret := (none : Option FieldType)) (by decide) rfl ?_
  intro p e s m args below meth c s₁ B hml hv
  obtain ⟨rfl, hsz, hP, hK, hD0, hN⟩ := hv
  have hx := B.exec
  have hb := B.bytes
  have hr := B.returns
  have hts0 := atoms_spec (ws := (wW yJ7_fill_53178 cJ7_fill_53178 4 (none : Option FieldType))) B.pre
  have hts : ∀ w9 ∈ lw_G, w9.before ([Value.ref ra, Value.int v] : List Value).toArray s = true := fun w9 h9 => hts0 w9 (List.mem_cons_of_mem _ h9)
  have hown : s.vm.findClass RJ7 = some m.cls := findClass_of_methodNamed (x := yJ7_fill_53178) B.named
  have hlocks := B.notSynchronized
  subst hsz
  have hD := hD0.self (sz := s.heap.size)
  generalize hAe : va_A (wp [] (va_pl L (plE aC g))) s.heap.size = A at hD ⊢
  have hA : ∀ q : Nat, s.heap.size ≤ q → A q := fun q h => by rw [← hAe]; exact Or.inr h
  obtain ⟨H, hHe⟩ : ∃ H : Heap, H = s.heap := ⟨_, rfl⟩
  have hS : va_S A s.heap H [] := by rw [hHe]; exact va_S.rf
  have hP : va_P (dC, dI) classes (wp [] (va_pl L (plE aC g))) H := by rw [hHe]; exact hP
  have hl := lv_entry ([Value.ref ra, Value.int v]) (n := 4) (Nat.le_of_ble_eq_true rfl)
  rw [lg_entry_eq]
  generalize (lg_sl ([Value.ref ra, Value.int v]) ++ List.replicate (4 - (lg_sl ([Value.ref ra, Value.int v])).length) Slot.unset).toArray = ls at hl ⊢
  have hl : lv_has ls 4 [(0, Value.ref ra), (1, Value.int v)] := hl
  rw [← hHe]
  refine lv_iconst (v := 0) hx hb dJ7_fill_53178_0 (by decide) ?_
  refine lv_istore_n (lv' := [(2, Value.int 0), (0, Value.ref ra), (1, Value.int v)]) hx hb dJ7_fill_53178_1 rfl hl (by decide) rfl (fun ls hl => ?_)
  refine lv_aload_n hx hb dJ7_fill_53178_2 rfl (lv_at hl 1 rfl) ?_
  refine pl_alen hx hb hK hP (hm) dJ7_fill_53178_3 ?_
  refine lv_istore_n (lv' := [(3, Value.int 8), (2, Value.int 0), (0, Value.ref ra), (1, Value.int v)]) hx hb dJ7_fill_53178_4 rfl hl (by decide) rfl (fun ls hl => ?_)
  have lp_5 : ∀ (fu : Nat) (k : Nat) (gc : Nat → Nat → Int32) (hfu : 8 - k < fu) (hk : k ≤ 8) (hg1 : ∀ j, j < k → gc ra j = v) (hg2 : ∀ a, a ≠ ra → gc a = g a) (H : Heap) (locs : List Loc) (ls : Array Slot), va_P (dC, dI) classes (wp [] (va_pl L (plE aC gc))) H → va_D A (wp [] (va_pl L (plE aC gc))) → va_S A s.heap H locs → lv_has ls 4 [(0, Value.ref ra), (1, Value.int v), (2, Value.int (nI k)), (3, Value.int 8)] → W p l e (headSpec (wW yJ7_fill_53178 cJ7_fill_53178 4 (none : Option FieldType)) ({ frames := 0, cells := 0, slots := 0, locals := 0 } : Room)).room s m ([Value.ref ra, Value.int v] : List Value).toArray below meth c H locs 0 0 (MQ below (va_Qv (fun (g2 : Nat → Nat → Int32) => (∀ j, j < 8 → g2 ra j = v) ∧ ∀ a, a ≠ ra → g2 a = g a) (fun (g2 : Nat → Nat → Int32) (t : State) => va_P (dC, dI) classes (wp [] (va_pl L (plE aC g2))) t.heap ∧ va_K (dC, dI) classes (TY aC) t ∧ va_D A (wp [] (va_pl L (plE aC g2)))) A) ([Value.ref ra, Value.int v] : List Value).toArray s 0 0 A) (F0 m 5 ls []) := by
    intro fu
    induction fu with
    | zero => intro k gc hfu; exact absurd hfu (Nat.not_lt_zero _)
    | succ fu ih_5 =>
      intro k gc hfu hk hg1 hg2 H locs ls hP hD hS hl
      refine lv_iload_n hx hb dJ7_fill_53178_5 rfl (lv_at hl 2 rfl) ?_
      refine lv_iload_n hx hb dJ7_fill_53178_6 rfl (lv_at hl 3 rfl) ?_
      refine lv_icmp_ge (tgt := 20) hx hb dJ7_fill_53178_7 (by decide) (fun c_1 => ?_) (fun c_1 => ?_)
      · have hk8 : k = 8 := by
          rcases Nat.lt_or_ge k 8 with q | q
          · exact absurd c_1 (nI_ge (b := 8) q (by omega))
          · omega
        have hpd9 := pd_P (cx := []) hP hD [] (by decide) rfl
        have hP9 := hpd9.1
        have hD9 := hpd9.2
        refine W.widen (k := 0) (n := 0) (by omega) (by omega) ?_
        exact W.vret hx hb hr (fun t ht hW => ⟨⟨(gc), rfl, ⟨fun j h => hg1 j (by omega), hg2⟩, by rw [ht]; exact hP9, va_K.moved hW.alike hK, hD9⟩, hS.F ht⟩) hS.2.2 dJ7_fill_53178_20
      · have hlt : k < 8 := by
          rcases Nat.lt_or_ge k 8 with q | q
          · exact q
          · exact absurd (nI_le (a := 8) q (by omega)) c_1
        refine lv_aload_n hx hb dJ7_fill_53178_10 rfl (lv_at hl 0 rfl) ?_
        refine lv_iload_n hx hb dJ7_fill_53178_11 rfl (lv_at hl 2 rfl) ?_
        refine lv_iload_n hx hb dJ7_fill_53178_12 rfl (lv_at hl 1 rfl) ?_
        have h_2 : vp_in (nI k) 8 := vp_in_nI (by omega) (by omega)
        refine pl_iast hx hb hK hP hD hS (hm) h_2 dJ7_fill_53178_13 (fun H locs hP hD hS => ?_)
        obtain ⟨g_3, e_g_3⟩ : ∃ y : Nat → Nat → Int32, y = va_up gc ra (upd (gc ra) (nI k : Int32).toNatClampNeg v) := ⟨_, rfl⟩
        have hpd9 : PDx (dC, dI) classes A H (wp [] (va_pl L (plE aC g_3))) := by rw [e_g_3]; exact ⟨hP, hD⟩
        have hP := hpd9.1
        have hD := hpd9.2
        clear hpd9
        have hb1 : ∀ j, j < k + 1 → g_3 ra j = v := fun j h => by
          rw [e_g_3, nI_clamp (by omega), up_s]
          by_cases e : j = k
          · rw [e, pk_us]
          · rw [pk_un e]; exact hg1 j (by omega)
        have hb2 : ∀ a, a ≠ ra → g_3 a = g a := fun a h => by rw [e_g_3, up_n h]; exact hg2 a h
        obtain ⟨x_4, e_4⟩ : ∃ y : Int32, y = (nI k) + 1 := ⟨_, rfl⟩
        refine lv_iinc (v := x_4) (lv' := [(2, Value.int x_4), (0, Value.ref ra), (1, Value.int v), (3, Value.int 8)]) hx hb dJ7_fill_53178_14 hl (k := 2) rfl (by rw [e_4]; rfl) (by decide) rfl (fun ls hl => ?_)
        have h9 : x_4 = nI (k + 1) := by rw [e_4, nI_1]
        subst h9
        refine lv_goto (tgt := 5) hx hb dJ7_fill_53178_17 (by decide) ?_
        exact ih_5 (k + 1) g_3 (by omega) (by omega) (hb1) (hb2) _ _ _ (plP hP [] rfl) (plD hD [] (by decide) rfl) hS (lv_sub hl [1, 2, 0, 3] rfl)
  exact lp_5 ((8 - 0) + 1) 0 g (Nat.lt_succ_self _) (by omega) (fun j h => by omega) (fun a _ => rfl) _ _ _ (plP hP [] rfl) (plD hD [] (by decide) rfl) hS (lv_sub hl [2, 3, 1, 0] rfl)

set_option maxHeartbeats 1000000 in
set_option maxRecDepth 100000 in
/-- X9_keepAll -/
theorem c_X9_keepAll (l : Launch) (dC : Nat → ClassId) (dI : Nat → Nat → Nat) (aC : Nat → ClassId) (sz : Nat) (h1 : Nat) (po : Nat) (pp : Nat) (ps : Nat) (pa : Nat) (pe : Nat) (pb : Nat) (pv : Nat) (pk : Nat) (pu : Nat) (pw : Nat) (pq : Nat) (pt : Nat) (un : Int32) (fw : Int32) (ek : Nat) (ef : Nat) (ew : Nat) (ep : Nat) (es : Nat) (n : Nat) (sy : Int32) (dn : Int32) (stf : Nat → Int32) (L : List Nat) (g : Nat → Nat → Int32) (fo : Nat → Option Nat) (fp : Nat → Option Nat) (fs : Nat → Option Nat) (ro : Nat → Nat) (rp : Nat → Nat) (rs : Nat → Nat) (i : Nat) (cq : Nat) (hgr : GRD L fo fp fs ro rp rs) (hi : i < 8) (hcq : stf 0 = nI cq) : Met l yX9_keepAll (wW yX9_keepAll cX9_keepAll 2 (none : Option FieldType)) ({ frames := 1, cells := 0, slots := 0, locals := 23 } : Room) (va_Pc [Value.ref h1, Value.int (nI i)] (fun U => U.heap.size = sz ∧ va_P (dC, dI) classes (wp [oX9 h1 po pp ps pa pe pb pv pk pu pw pq pt un fw, oX4 pv ek ef ew ep es (nI n) sy dn, cI aC es 5 stf, cA aC po 8 fo] (va_pl L (plE aC g))) U.heap ∧ va_K (dC, dI) classes (TY aC) U ∧ va_D (fun _ => True) (wp [oX9 h1 po pp ps pa pe pb pv pk pu pw pq pt un fw, oX4 pv ek ef ew ep es (nI n) sy dn, cI aC es 5 stf, cA aC po 8 fo] (va_pl L (plE aC g))) ∧ NX U)) (va_Qv (fun (g2 : Nat → Nat → Int32) => (∀ q, q < 8 → g2 (ro i) q = nI (if q = i then cq else 0)) ∧ ∀ a, a ≠ ro i → g2 a = g a) (fun (g2 : Nat → Nat → Int32) (t : State) => va_P (dC, dI) classes (wp [oX9 h1 po pp ps pa pe pb pv pk pu pw pq pt un fw, oX4 pv ek ef ew ep es (nI n) sy dn, cI aC es 5 stf, cA aC po 8 fo] (va_pl L (plE aC g2))) t.heap ∧ va_K (dC, dI) classes (TY aC) t ∧ va_D (va_A (wp [oX9 h1 po pp ps pa pe pb pv pk pu pw pq pt un fw, oX4 pv ek ef ew ep es (nI n) sy dn, cI aC es 5 stf, cA aC po 8 fo] (va_pl L (plE aC g))) sz) (wp [oX9 h1 po pp ps pa pe pb pv pk pu pw pq pt un fw, oX4 pv ek ef ew ep es (nI n) sy dn, cI aC es 5 stf, cA aC po 8 fo] (va_pl L (plE aC g2)))) (va_A (wp [oX9 h1 po pp ps pa pe pb pv pk pu pw pq pt un fw, oX4 pv ek ef ew ep es (nI n) sy dn, cI aC es 5 stf, cA aC po 8 fo] (va_pl L (plE aC g))) sz)) 0 0 (va_A (wp [oX9 h1 po pp ps pa pe pb pv pk pu pw pq pt un fw, oX4 pv ek ef ew ep es (nI n) sy dn, cI aC es 5 stf, cA aC po 8 fo] (va_pl L (plE aC g))) sz) := by
  refine Met.ofW (cc := cX9_keepAll) (maxL := 2) (ret := (none : Option FieldType)) (by decide) rfl ?_
  intro p e s m args below meth c s₁ B hml hv
  obtain ⟨rfl, hsz, hP, hK, hD0, hN⟩ := hv
  have hx := B.exec
  have hb := B.bytes
  have hr := B.returns
  have hts0 := atoms_spec (ws := (wW yX9_keepAll cX9_keepAll 2 (none : Option FieldType))) B.pre
  have hts : ∀ w9 ∈ lw_G, w9.before ([Value.ref h1, Value.int (nI i)] : List Value).toArray s = true := fun w9 h9 => hts0 w9 (List.mem_cons_of_mem _ h9)
  have hown : s.vm.findClass RX9 = some m.cls := findClass_of_methodNamed (x := yX9_keepAll) B.named
  have hlocks := B.notSynchronized
  subst hsz
  have hD := hD0.self (sz := s.heap.size)
  generalize hAe : va_A (wp [oX9 h1 po pp ps pa pe pb pv pk pu pw pq pt un fw, oX4 pv ek ef ew ep es (nI n) sy dn, cI aC es 5 stf, cA aC po 8 fo] (va_pl L (plE aC g))) s.heap.size = A at hD ⊢
  have hA : ∀ q : Nat, s.heap.size ≤ q → A q := fun q h => by rw [← hAe]; exact Or.inr h
  obtain ⟨H, hHe⟩ : ∃ H : Heap, H = s.heap := ⟨_, rfl⟩
  have hS : va_S A s.heap H [] := by rw [hHe]; exact va_S.rf
  have hP : va_P (dC, dI) classes (wp [oX9 h1 po pp ps pa pe pb pv pk pu pw pq pt un fw, oX4 pv ek ef ew ep es (nI n) sy dn, cI aC es 5 stf, cA aC po 8 fo] (va_pl L (plE aC g))) H := by rw [hHe]; exact hP
  have hl := lv_entry ([Value.ref h1, Value.int (nI i)]) (n := 2) (Nat.le_of_ble_eq_true rfl)
  rw [lg_entry_eq]
  generalize (lg_sl ([Value.ref h1, Value.int (nI i)]) ++ List.replicate (2 - (lg_sl ([Value.ref h1, Value.int (nI i)])).length) Slot.unset).toArray = ls at hl ⊢
  have hl : lv_has ls 2 [(0, Value.ref h1), (1, Value.int (nI i))] := hl
  rw [← hHe]
  refine lv_aload_n hx hb dX9_keepAll_0 rfl (lv_at hl 0 rfl) ?_
  refine va_get (D := (dC, dI)) (ci := 9) (v := Value.ref po) (C := RX9) (T := TX9) (N := 14) hx hb hts inX9 hown hK hP 0 rfl rfl 0 (by decide) (hts _ (gw kw_150 rfl)) (fun _ h9 => h9) rfl dX9_keepAll_1 ?_
  refine lv_iload_n hx hb dX9_keepAll_4 rfl (lv_at hl 1 rfl) ?_
  have h_1 : vp_in (nI i) 8 := by first | exact vp_in_nI (by omega) (by omega) | (unfold vp_in; decide) | (subst_vars; first | (unfold vp_in; decide) | exact vp_in_nI (by omega) (by omega))
  refine va_alda (r := ro i) hx hb hK hP 3 rfl h_1 (by rw [nI_clamp (by omega)]; exact (hgr.1 i (by omega)).1.1) dX9_keepAll_5 ?_
  refine lv_iconst (v := 0) hx hb dX9_keepAll_6 (by decide) ?_
  have hpd9 := pdf_P (cx := []) hP hD hS hA [] (by decide) rfl
  have hPc := hpd9.1
  have hDc := hpd9.2.1
  have hFc := hpd9.2.2
  clear hpd9
  refine va_callv (va_runS (As := [Value.ref (ro i), Value.int 0]) (rest := []) ⟨hx, hb, hml, hown, hts⟩ (c_J7_fill_p l dC dI aC H.size L g (ro i) 0 ((hgr.1 i (by omega)).1.2)) ⟨(callB_of 2 hts (gG kw_399) rfl rfl rfl (hts _ (gw kw_15 rfl)) (hts _ (gw kw_397 rfl)) hd_J7_fill_53178 ⟨Nat.le_of_ble_eq_true rfl, Nat.le_of_ble_eq_true rfl⟩), (hts _ (gw kw_398 rfl))⟩ ⟨fb_std, pre_std hPc hK hDc hN⟩ rfl rfl hl.1 rfl (lv_room (Nat.le_of_ble_eq_true rfl)) dX9_keepAll_7 ⟨Nat.le_of_ble_eq_true rfl, Nat.le_of_ble_eq_true rfl⟩) hS (fun q _ h => hFc q h) hFc (fun u9 t9 H1 locs ht hvm hw_2 hB hz1 hk1 hS => ?_)
  obtain ⟨u_3, rfl⟩ : ∃ z, z = u9 := ⟨_, rfl⟩
  obtain ⟨hP1, hK1, hD1⟩ := hB
  rw [ht] at hP1
  clear hK1
  try dsimp only at hw_2
  have hpd9 : PDx (dC, dI) classes A H1 (wp [oX9 h1 po pp ps pa pe pb pv pk pu pw pq pt un fw, oX4 pv ek ef ew ep es (nI n) sy dn, cI aC es 5 stf, cA aC po 8 fo] (va_pl L (plE aC u_3))) := jn_P (wr := [oX9 h1 po pp ps pa pe pb pv pk pu pw pq pt un fw, oX4 pv ek ef ew ep es (nI n) sy dn, cI aC es 5 stf, cA aC po 8 fo]) hFc hk1 hP1 hD1 hP hD [] [0, 1, 2, 3] rfl rfl (by decide) (by decide)
  have hP := hpd9.1
  have hD := hpd9.2
  clear hpd9
  generalize H1 = H at hP hS ⊢
  clear hPc hDc hFc hz1 hk1 hP1 hD1 ht hvm
  obtain ⟨hf1, hf2⟩ := hw_2
  refine lv_aload_n hx hb dX9_keepAll_10 rfl (lv_at hl 0 rfl) ?_
  refine va_get (D := (dC, dI)) (ci := 9) (v := Value.ref po) (C := RX9) (T := TX9) (N := 14) hx hb hts inX9 hown hK hP 0 rfl rfl 0 (by decide) (hts _ (gw kw_150 rfl)) (fun _ h9 => h9) rfl dX9_keepAll_11 ?_
  refine lv_iload_n hx hb dX9_keepAll_14 rfl (lv_at hl 1 rfl) ?_
  have h_4 : vp_in (nI i) 8 := by first | exact vp_in_nI (by omega) (by omega) | (unfold vp_in; decide) | (subst_vars; first | (unfold vp_in; decide) | exact vp_in_nI (by omega) (by omega))
  refine va_alda (r := ro i) hx hb hK hP 3 rfl h_4 (by rw [nI_clamp (by omega)]; exact (hgr.1 i (by omega)).1.1) dX9_keepAll_15 ?_
  refine lv_iload_n hx hb dX9_keepAll_16 rfl (lv_at hl 1 rfl) ?_
  refine lv_aload_n hx hb dX9_keepAll_17 rfl (lv_at hl 0 rfl) ?_
  refine va_get (D := (dC, dI)) (ci := 9) (v := Value.ref pv) (C := RX9) (T := TX9) (N := 14) hx hb hts inX9 hown hK hP 0 rfl rfl 6 (by decide) (hts _ (gw kw_162 rfl)) (fun _ h9 => h9) rfl dX9_keepAll_18 ?_
  refine va_get (D := (dC, dI)) (ci := 4) (v := Value.ref es) (C := RX4) (T := TX4) (N := 8) hx hb hts inX4 hown hK hP 1 rfl rfl 4 (by decide) (hts _ (gw kw_44 rfl)) (fun _ h9 => h9) rfl dX9_keepAll_21 ?_
  refine lv_iconst (v := 0) hx hb dX9_keepAll_24 (by decide) ?_
  have h_5 : vp_in 0 5 := by first | exact vp_in_nI (by omega) (by omega) | (unfold vp_in; decide) | (subst_vars; first | (unfold vp_in; decide) | exact vp_in_nI (by omega) (by omega))
  refine va_iald hx hb hK hP 2 0 rfl rfl h_5 dX9_keepAll_25 ?_
  refine lv_topi (fun x_6 e_6 => ?_)
  have h9 : x_6 = nI cq := by rw [e_6]; exact hcq
  subst h9
  have h_7 : vp_in (nI i) 8 := by first | exact vp_in_nI (by omega) (by omega) | (unfold vp_in; decide) | (subst_vars; first | (unfold vp_in; decide) | exact vp_in_nI (by omega) (by omega))
  refine pl_iast hx hb hK hP hD hS ((hgr.1 i (by omega)).1.2) h_7 dX9_keepAll_26 (fun H locs hP hD hS => ?_)
  obtain ⟨g_8, e_g_8⟩ : ∃ y : Nat → Nat → Int32, y = va_up u_3 (ro i) (upd (u_3 (ro i)) (nI i : Int32).toNatClampNeg (nI cq)) := ⟨_, rfl⟩
  have hpd9 : PDx (dC, dI) classes A H (wp [oX9 h1 po pp ps pa pe pb pv pk pu pw pq pt un fw, oX4 pv ek ef ew ep es (nI n) sy dn, cI aC es 5 stf, cA aC po 8 fo] (va_pl L (plE aC g_8))) := by rw [e_g_8]; exact ⟨hP, hD⟩
  have hP := hpd9.1
  have hD := hpd9.2
  clear hpd9
  have hpd9 := pd_P (cx := [oX9 h1 po pp ps pa pe pb pv pk pu pw pq pt un fw, oX4 pv ek ef ew ep es (nI n) sy dn, cI aC es 5 stf, cA aC po 8 fo]) hP hD [0, 1, 2, 3] (by decide) rfl
  have hP9 := hpd9.1
  have hD9 := hpd9.2
  refine W.widen (k := 0) (n := 0) (by omega) (by omega) ?_
  exact W.vret hx hb hr (fun t ht hW => ⟨⟨(g_8), rfl, ⟨fun q hq => by rw [e_g_8, nI_clamp (by omega), up_s]; by_cases e : q = i <;> first | (rw [e, pk_us, if_pos rfl]; done) | (rw [pk_un e, if_neg e]; exact hf1 q hq), fun a h => by rw [e_g_8, up_n h]; exact hf2 a h⟩, by rw [ht]; exact hP9, va_K.moved hW.alike hK, hD9⟩, hS.F ht⟩) hS.2.2 dX9_keepAll_27

set_option maxHeartbeats 1000000 in
set_option maxRecDepth 100000 in
/-- X9_give -/
theorem c_X9_give (l : Launch) (dC : Nat → ClassId) (dI : Nat → Nat → Nat) (aC : Nat → ClassId) (sz : Nat) (h1 : Nat) (po : Nat) (pp : Nat) (ps : Nat) (pa : Nat) (pe : Nat) (pb : Nat) (pv : Nat) (pk : Nat) (pu : Nat) (pw : Nat) (pq : Nat) (pt : Nat) (un : Int32) (fw : Int32) (L : List Nat) (g : Nat → Nat → Int32) (fo : Nat → Option Nat) (fp : Nat → Option Nat) (fs : Nat → Option Nat) (ro : Nat → Nat) (rp : Nat → Nat) (rs : Nat → Nat) (i : Nat) (j : Nat) (cn0 : Nat) (O : Nat → Nat) (hgr : GRD L fo fp fs ro rp rs) (hij : i < j ∧ j < 8) (hc : cn0 ≤ 99) (hO : ∀ q, q < 8 → g (ro i) q = nI (O q)) (hO9 : ∀ q, O q ≤ 99) : Met l yX9_give (wW yX9_give cX9_give 4 (none : Option FieldType)) ({ frames := 0, cells := 0, slots := 0, locals := 0 } : Room) (va_Pc [Value.ref h1, Value.int (nI i), Value.int (nI j), Value.int (nI cn0)] (fun U => U.heap.size = sz ∧ va_P (dC, dI) classes (wp [oX9 h1 po pp ps pa pe pb pv pk pu pw pq pt un fw, cA aC po 8 fo] (va_pl L (plE aC g))) U.heap ∧ va_K (dC, dI) classes (TY aC) U ∧ va_D (fun _ => True) (wp [oX9 h1 po pp ps pa pe pb pv pk pu pw pq pt un fw, cA aC po 8 fo] (va_pl L (plE aC g))) ∧ NX U)) (va_Qv (fun (g2 : Nat → Nat → Int32) => (∀ q, q < 8 → g2 (ro i) q = nI (gv O i j cn0 q)) ∧ ∀ a, a ≠ ro i → g2 a = g a) (fun (g2 : Nat → Nat → Int32) (t : State) => va_P (dC, dI) classes (wp [oX9 h1 po pp ps pa pe pb pv pk pu pw pq pt un fw, cA aC po 8 fo] (va_pl L (plE aC g2))) t.heap ∧ va_K (dC, dI) classes (TY aC) t ∧ va_D (va_A (wp [oX9 h1 po pp ps pa pe pb pv pk pu pw pq pt un fw, cA aC po 8 fo] (va_pl L (plE aC g))) sz) (wp [oX9 h1 po pp ps pa pe pb pv pk pu pw pq pt un fw, cA aC po 8 fo] (va_pl L (plE aC g2)))) (va_A (wp [oX9 h1 po pp ps pa pe pb pv pk pu pw pq pt un fw, cA aC po 8 fo] (va_pl L (plE aC g))) sz)) 0 0 (va_A (wp [oX9 h1 po pp ps pa pe pb pv pk pu pw pq pt un fw, cA aC po 8 fo] (va_pl L (plE aC g))) sz) := by
  refine Met.ofW (cc := cX9_give) (maxL := 4) (ret := (none : Option FieldType)) (by decide) rfl ?_
  intro p e s m args below meth c s₁ B hml hv
  obtain ⟨rfl, hsz, hP, hK, hD0, hN⟩ := hv
  have hx := B.exec
  have hb := B.bytes
  have hr := B.returns
  have hts0 := atoms_spec (ws := (wW yX9_give cX9_give 4 (none : Option FieldType))) B.pre
  have hts : ∀ w9 ∈ lw_G, w9.before ([Value.ref h1, Value.int (nI i), Value.int (nI j), Value.int (nI cn0)] : List Value).toArray s = true := fun w9 h9 => hts0 w9 (List.mem_cons_of_mem _ h9)
  have hown : s.vm.findClass RX9 = some m.cls := findClass_of_methodNamed (x := yX9_give) B.named
  have hlocks := B.notSynchronized
  subst hsz
  have hD := hD0.self (sz := s.heap.size)
  generalize hAe : va_A (wp [oX9 h1 po pp ps pa pe pb pv pk pu pw pq pt un fw, cA aC po 8 fo] (va_pl L (plE aC g))) s.heap.size = A at hD ⊢
  have hA : ∀ q : Nat, s.heap.size ≤ q → A q := fun q h => by rw [← hAe]; exact Or.inr h
  obtain ⟨H, hHe⟩ : ∃ H : Heap, H = s.heap := ⟨_, rfl⟩
  have hS : va_S A s.heap H [] := by rw [hHe]; exact va_S.rf
  have hP : va_P (dC, dI) classes (wp [oX9 h1 po pp ps pa pe pb pv pk pu pw pq pt un fw, cA aC po 8 fo] (va_pl L (plE aC g))) H := by rw [hHe]; exact hP
  have hl := lv_entry ([Value.ref h1, Value.int (nI i), Value.int (nI j), Value.int (nI cn0)]) (n := 4) (Nat.le_of_ble_eq_true rfl)
  rw [lg_entry_eq]
  generalize (lg_sl ([Value.ref h1, Value.int (nI i), Value.int (nI j), Value.int (nI cn0)]) ++ List.replicate (4 - (lg_sl ([Value.ref h1, Value.int (nI i), Value.int (nI j), Value.int (nI cn0)])).length) Slot.unset).toArray = ls at hl ⊢
  have hl : lv_has ls 4 [(0, Value.ref h1), (1, Value.int (nI i)), (2, Value.int (nI j)), (3, Value.int (nI cn0))] := hl
  rw [← hHe]
  have hoi := hO9 i
  refine lv_aload_n hx hb dX9_give_0 rfl (lv_at hl 0 rfl) ?_
  refine va_get (D := (dC, dI)) (ci := 9) (v := Value.ref po) (C := RX9) (T := TX9) (N := 14) hx hb hts inX9 hown hK hP 0 rfl rfl 0 (by decide) (hts _ (gw kw_150 rfl)) (fun _ h9 => h9) rfl dX9_give_1 ?_
  refine lv_iload_n hx hb dX9_give_4 rfl (lv_at hl 1 rfl) ?_
  have h_1 : vp_in (nI i) 8 := by first | exact vp_in_nI (by omega) (by omega) | (unfold vp_in; decide) | (subst_vars; first | (unfold vp_in; decide) | exact vp_in_nI (by omega) (by omega))
  refine va_alda (r := ro i) hx hb hK hP 1 rfl h_1 (by rw [nI_clamp (by omega)]; exact (hgr.1 i (by omega)).1.1) dX9_give_5 ?_
  refine lv_iload_n hx hb dX9_give_6 rfl (lv_at hl 1 rfl) ?_
  have h_2 : vp_in (nI i) 8 := by first | exact vp_in_nI (by omega) (by omega) | (unfold vp_in; decide) | (subst_vars; first | (unfold vp_in; decide) | exact vp_in_nI (by omega) (by omega))
  refine pl_iald hx hb hK hP ((hgr.1 i (by omega)).1.2) h_2 dX9_give_7 ?_
  refine lv_topi (fun x_3 e_3 => ?_)
  have h9 : x_3 = nI (O i) := by rw [e_3, nI_clamp (by omega)]; exact hO i (by omega)
  subst h9
  refine lv_iload_n hx hb dX9_give_8 rfl (lv_at hl 3 rfl) ?_
  refine lv_icmp_lt (tgt := 33) hx hb dX9_give_9 (by decide) (fun c_4 => ?_) (fun c_4 => ?_)
  · have hpd9 := pd_P (cx := [oX9 h1 po pp ps pa pe pb pv pk pu pw pq pt un fw, cA aC po 8 fo]) hP hD [0, 1] (by decide) rfl
    have hP9 := hpd9.1
    have hD9 := hpd9.2
    refine W.widen (k := 0) (n := 0) (by omega) (by omega) ?_
    exact W.vret hx hb hr (fun t ht hW => ⟨⟨(g), rfl, ⟨fun q hq => by rw [hO q hq]; unfold gv; rw [if_neg (by have := (nI_ltI (by omega) (by omega)).mp c_4; omega)], fun a _ => rfl⟩, by rw [ht]; exact hP9, va_K.moved hW.alike hK, hD9⟩, hS.F ht⟩) hS.2.2 dX9_give_33
  · have hle : cn0 ≤ O i := by
      rcases Nat.lt_or_ge (O i) cn0 with q | q
      · exact absurd (nI_lt q (by omega)) c_4
      · exact q
    refine lv_aload_n hx hb dX9_give_12 rfl (lv_at hl 0 rfl) ?_
    refine va_get (D := (dC, dI)) (ci := 9) (v := Value.ref po) (C := RX9) (T := TX9) (N := 14) hx hb hts inX9 hown hK hP 0 rfl rfl 0 (by decide) (hts _ (gw kw_150 rfl)) (fun _ h9 => h9) rfl dX9_give_13 ?_
    refine lv_iload_n hx hb dX9_give_16 rfl (lv_at hl 1 rfl) ?_
    have h_5 : vp_in (nI i) 8 := by first | exact vp_in_nI (by omega) (by omega) | (unfold vp_in; decide) | (subst_vars; first | (unfold vp_in; decide) | exact vp_in_nI (by omega) (by omega))
    refine va_alda (r := ro i) hx hb hK hP 1 rfl h_5 (by rw [nI_clamp (by omega)]; exact (hgr.1 i (by omega)).1.1) dX9_give_17 ?_
    refine lv_iload_n hx hb dX9_give_18 rfl (lv_at hl 2 rfl) ?_
    refine lv_iload_n hx hb dX9_give_19 rfl (lv_at hl 3 rfl) ?_
    have h_6 : vp_in (nI j) 8 := by first | exact vp_in_nI (by omega) (by omega) | (unfold vp_in; decide) | (subst_vars; first | (unfold vp_in; decide) | exact vp_in_nI (by omega) (by omega))
    refine pl_iast hx hb hK hP hD hS ((hgr.1 i (by omega)).1.2) h_6 dX9_give_20 (fun H locs hP hD hS => ?_)
    obtain ⟨g_7, e_g_7⟩ : ∃ y : Nat → Nat → Int32, y = va_up g (ro i) (upd (g (ro i)) (nI j : Int32).toNatClampNeg (nI cn0)) := ⟨_, rfl⟩
    have hpd9 : PDx (dC, dI) classes A H (wp [oX9 h1 po pp ps pa pe pb pv pk pu pw pq pt un fw, cA aC po 8 fo] (va_pl L (plE aC g_7))) := by rw [e_g_7]; exact ⟨hP, hD⟩
    have hP := hpd9.1
    have hD := hpd9.2
    clear hpd9
    refine lv_aload_n hx hb dX9_give_21 rfl (lv_at hl 0 rfl) ?_
    refine va_get (D := (dC, dI)) (ci := 9) (v := Value.ref po) (C := RX9) (T := TX9) (N := 14) hx hb hts inX9 hown hK hP 0 rfl rfl 0 (by decide) (hts _ (gw kw_150 rfl)) (fun _ h9 => h9) rfl dX9_give_22 ?_
    refine lv_iload_n hx hb dX9_give_25 rfl (lv_at hl 1 rfl) ?_
    have h_8 : vp_in (nI i) 8 := by first | exact vp_in_nI (by omega) (by omega) | (unfold vp_in; decide) | (subst_vars; first | (unfold vp_in; decide) | exact vp_in_nI (by omega) (by omega))
    refine va_alda (r := ro i) hx hb hK hP 1 rfl h_8 (by rw [nI_clamp (by omega)]; exact (hgr.1 i (by omega)).1.1) dX9_give_26 ?_
    refine lv_iload_n hx hb dX9_give_27 rfl (lv_at hl 1 rfl) ?_
    refine lv_dup2_11 hx hb dX9_give_28 rfl rfl ?_
    have h_9 : vp_in (nI i) 8 := by first | exact vp_in_nI (by omega) (by omega) | (unfold vp_in; decide) | (subst_vars; first | (unfold vp_in; decide) | exact vp_in_nI (by omega) (by omega))
    refine pl_iald hx hb hK hP ((hgr.1 i (by omega)).1.2) h_9 dX9_give_29 ?_
    refine lv_topi (fun x_10 e_10 => ?_)
    have h9 : x_10 = nI (O i) := by rw [e_10, nI_clamp (by omega), e_g_7, nI_clamp (by omega), up_s, pk_un (by omega)]; exact hO i (by omega)
    subst h9
    refine lv_iload_n hx hb dX9_give_30 rfl (lv_at hl 3 rfl) ?_
    refine lv_isub hx hb dX9_give_31 ?_
    refine lv_topi (fun x_11 e_11 => ?_)
    have h9 : x_11 = nI (O i - cn0) := by rw [e_11]; exact pk_sub hle
    subst h9
    have h_12 : vp_in (nI i) 8 := by first | exact vp_in_nI (by omega) (by omega) | (unfold vp_in; decide) | (subst_vars; first | (unfold vp_in; decide) | exact vp_in_nI (by omega) (by omega))
    refine pl_iast hx hb hK hP hD hS ((hgr.1 i (by omega)).1.2) h_12 dX9_give_32 (fun H locs hP hD hS => ?_)
    obtain ⟨g_13, e_g_13⟩ : ∃ y : Nat → Nat → Int32, y = va_up g_7 (ro i) (upd (g_7 (ro i)) (nI i : Int32).toNatClampNeg (nI (O i - cn0))) := ⟨_, rfl⟩
    have hpd9 : PDx (dC, dI) classes A H (wp [oX9 h1 po pp ps pa pe pb pv pk pu pw pq pt un fw, cA aC po 8 fo] (va_pl L (plE aC g_13))) := by rw [e_g_13]; exact ⟨hP, hD⟩
    have hP := hpd9.1
    have hD := hpd9.2
    clear hpd9
    have hpd9 := pd_P (cx := [oX9 h1 po pp ps pa pe pb pv pk pu pw pq pt un fw, cA aC po 8 fo]) hP hD [0, 1] (by decide) rfl
    have hP9 := hpd9.1
    have hD9 := hpd9.2
    refine W.widen (k := 0) (n := 0) (by omega) (by omega) ?_
    exact W.vret hx hb hr (fun t ht hW => ⟨⟨(g_13), rfl, ⟨fun q hq => by rw [e_g_13, nI_clamp (by omega), up_s]; unfold gv; rw [if_pos hle]; by_cases e : q = i <;> first | (rw [e, pk_us, if_neg (by omega), if_pos rfl]; done) | (rw [pk_un e, e_g_7, nI_clamp (by omega), up_s]; by_cases e2 : q = j <;> first | (rw [e2, pk_us, if_pos rfl]; done) | (rw [pk_un e2, if_neg e2, if_neg e]; exact hO q hq)), fun a h => by rw [e_g_13, up_n h, e_g_7, up_n h]⟩, by rw [ht]; exact hP9, va_K.moved hW.alike hK, hD9⟩, hS.F ht⟩) hS.2.2 dX9_give_33
