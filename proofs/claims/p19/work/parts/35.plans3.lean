theorem sE_suc {O : Nat → Nat} {i c j : Nat} (h : i < j) : sE O i c (j + 1 - (i + 1)) = gv (sE O i c (j - (i + 1))) i j c := by
  rw [show j + 1 - (i + 1) = (j - (i + 1)) + 1 by omega]
  show gv (sE O i c (j - (i + 1))) i (i + 1 + (j - (i + 1))) c = _
  rw [show i + 1 + (j - (i + 1)) = j by omega]
theorem sumr_suc {f : Nat → Nat} {a j : Nat} (h : a ≤ j) : sumr f a (j + 1 - a) = sumr f a (j - a) + f j := by
  rw [show j + 1 - a = (j - a) + 1 by omega]
  show sumr f a (j - a) + f (a + (j - a)) = _
  rw [show a + (j - a) = j by omega]
theorem yw_suc {W : Nat → Nat} {y : Int32} {a j : Nat} (h : a ≤ j) : yw W y a (j + 1 - a) = yw W y a (j - a) + (if bt y j = true then W j else 0) := sumr_suc h
theorem w_le {W : Nat → Nat} {a k n : Nat} (h : ∀ j, j < n → W j ≤ 9) (hk : a + k ≤ n) (hn : n ≤ 8) : sumr W a k ≤ 72 := by
  have := sumr_le (f := W) (a := a) (b := 9) (k := k) (fun j _ q => h j (by omega))
  omega
theorem yw_le {W : Nat → Nat} {y : Int32} {a k n : Nat} (h : ∀ j, j < n → W j ≤ 9) (hk : a + k ≤ n) (hn : n ≤ 8) : yw W y a k ≤ 72 := by
  have := sumr_le (f := fun j => if bt y j = true then W j else 0) (a := a) (b := 9) (k := k) (fun j _ q => by
    have := h j (by omega)
    split <;> omega)
  unfold yw
  omega
theorem max0_n {i : Nat} (h : i < 2 ^ 31) : (if (0 : Int32) < nI i then nI i else 0) = nI i := by
  rcases Nat.eq_zero_or_pos i with q | q
  · subst q; rfl
  · exact if_pos (nI_lt (a := 0) q h)
theorem vt_0 {y : Int32} {i : Nat} {n : Nat} {P O : Nat → Nat} (hi : i < 8) (hy : y = (1 : Int32) <<< (nI i &&& 31)) : ∀ b, b < 32 → bt y b = decide (b = i ∨ (i < b ∧ b < i + 1 ∧ P b ≤ O b)) := by
  intro b hb
  rw [hy, b_one i hi b hb]
  by_cases e : b = i
  · rw [decide_eq_true e, decide_eq_true (Or.inl e)]
  · rw [decide_eq_false e, decide_eq_false (fun q => q.elim e (fun q => by omega))]
theorem vt_y {x y : Int32} {i j : Nat} {P O : Nat → Nat} (hj : i < j ∧ j < 8) (hx : ∀ b, b < 32 → bt x b = decide (b = i ∨ (i < b ∧ b < j ∧ P b ≤ O b))) (hy : y = x ||| ((1 : Int32) <<< (nI j &&& 31))) (hP : P j ≤ O j) : ∀ b, b < 32 → bt y b = decide (b = i ∨ (i < b ∧ b < j + 1 ∧ P b ≤ O b)) := by
  intro b hb
  rw [hy, b_or, hx b hb, b_one j hj.2 b hb]
  by_cases e : b = j
  · subst e
    rw [decide_eq_true (p := b = b) rfl, Bool.or_true, decide_eq_true (Or.inr ⟨hj.1, by omega, hP⟩)]
  · rw [decide_eq_false (p := b = j) e, Bool.or_false]
    congr 1
    apply propext
    constructor
    · exact fun q => q.imp id (fun q => ⟨q.1, by omega, q.2.2⟩)
    · exact fun q => q.imp id (fun q => ⟨q.1, by omega, q.2.2⟩)
theorem vt_n {x : Int32} {i j : Nat} {P O : Nat → Nat} (hx : ∀ b, b < 32 → bt x b = decide (b = i ∨ (i < b ∧ b < j ∧ P b ≤ O b))) (hP : ¬ P j ≤ O j) : ∀ b, b < 32 → bt x b = decide (b = i ∨ (i < b ∧ b < j + 1 ∧ P b ≤ O b)) := by
  intro b hb
  rw [hx b hb]
  congr 1
  apply propext
  constructor
  · exact fun q => q.imp id (fun q => ⟨q.1, by omega, q.2.2⟩)
  · refine fun q => q.imp id (fun q => ⟨q.1, ?_, q.2.2⟩)
    rcases Nat.lt_or_ge b j with h | h
    · exact h
    · have e : b = j := by omega
      subst e
      exact absurd q.2.2 hP

set_option maxHeartbeats 1000000 in
set_option maxRecDepth 100000 in
/-- X9_figureOf -/
theorem c_X9_figureOf (l : Launch) (dC : Nat → ClassId) (dI : Nat → Nat → Nat) (aC : Nat → ClassId) (sz : Nat) (h1 : Nat) (po : Nat) (pp : Nat) (ps : Nat) (pa : Nat) (pe : Nat) (pb : Nat) (pv : Nat) (pk : Nat) (pu : Nat) (pw : Nat) (pq : Nat) (pt : Nat) (un : Int32) (fw : Int32) (ek : Nat) (ef : Nat) (ew : Nat) (ep : Nat) (es : Nat) (n : Nat) (sy : Int32) (dn : Int32) (ff : Nat → Int32) (i : Nat) (fi : Nat) (hi : i < 8) (hfi : ff i = nI fi) : Met l yX9_figureOf (wW yX9_figureOf cX9_figureOf 2 (some .int)) ({ frames := 0, cells := 0, slots := 0, locals := 0 } : Room) (va_Pc [Value.ref h1, Value.int (nI i)] (fun U => U.heap.size = sz ∧ va_P (dC, dI) classes [oX9 h1 po pp ps pa pe pb pv pk pu pw pq pt un fw, oX4 pv ek ef ew ep es (nI n) sy dn, cI aC ef 8 ff] U.heap ∧ va_K (dC, dI) classes (TY aC) U ∧ va_D (fun _ => True) [oX9 h1 po pp ps pa pe pb pv pk pu pw pq pt un fw, oX4 pv ek ef ew ep es (nI n) sy dn, cI aC ef 8 ff] ∧ NX U)) (va_Qi (fun (r : Int32) (_ : Unit) => r = nI fi) (fun (_ : Unit) (t : State) => va_P (dC, dI) classes [oX9 h1 po pp ps pa pe pb pv pk pu pw pq pt un fw, oX4 pv ek ef ew ep es (nI n) sy dn, cI aC ef 8 ff] t.heap ∧ va_K (dC, dI) classes (TY aC) t ∧ va_D (va_A [oX9 h1 po pp ps pa pe pb pv pk pu pw pq pt un fw, oX4 pv ek ef ew ep es (nI n) sy dn, cI aC ef 8 ff] sz) [oX9 h1 po pp ps pa pe pb pv pk pu pw pq pt un fw, oX4 pv ek ef ew ep es (nI n) sy dn, cI aC ef 8 ff]) (va_A [oX9 h1 po pp ps pa pe pb pv pk pu pw pq pt un fw, oX4 pv ek ef ew ep es (nI n) sy dn, cI aC ef 8 ff] sz)) 0 0 (va_A [oX9 h1 po pp ps pa pe pb pv pk pu pw pq pt un fw, oX4 pv ek ef ew ep es (nI n) sy dn, cI aC ef 8 ff] sz) := by
  refine Met.ofW (cc := cX9_figureOf) (maxL := 2) (ret := (some .int)) (by decide) rfl ?_
  intro p e s m args below meth c s₁ B hml hv
  obtain ⟨rfl, hsz, hP, hK, hD0, hN⟩ := hv
  have hx := B.exec
  have hb := B.bytes
  have hr := B.returns
  have hts0 := atoms_spec (ws := (wW yX9_figureOf cX9_figureOf 2 (some .int))) B.pre
  have hts : ∀ w9 ∈ lw_G, w9.before ([Value.ref h1, Value.int (nI i)] : List Value).toArray s = true := fun w9 h9 => hts0 w9 (List.mem_cons_of_mem _ h9)
  have hown : s.vm.findClass RX9 = some m.cls := findClass_of_methodNamed (x := yX9_figureOf) B.named
  have hlocks := B.notSynchronized
  subst hsz
  have hD := hD0.self (sz := s.heap.size)
  generalize hAe : va_A [oX9 h1 po pp ps pa pe pb pv pk pu pw pq pt un fw, oX4 pv ek ef ew ep es (nI n) sy dn, cI aC ef 8 ff] s.heap.size = A at hD ⊢
  have hA : ∀ q : Nat, s.heap.size ≤ q → A q := fun q h => by rw [← hAe]; exact Or.inr h
  obtain ⟨H, hHe⟩ : ∃ H : Heap, H = s.heap := ⟨_, rfl⟩
  have hS : va_S A s.heap H [] := by rw [hHe]; exact va_S.rf
  have hP : va_P (dC, dI) classes [oX9 h1 po pp ps pa pe pb pv pk pu pw pq pt un fw, oX4 pv ek ef ew ep es (nI n) sy dn, cI aC ef 8 ff] H := by rw [hHe]; exact hP
  have hl := lv_entry ([Value.ref h1, Value.int (nI i)]) (n := 2) (Nat.le_of_ble_eq_true rfl)
  rw [lg_entry_eq]
  generalize (lg_sl ([Value.ref h1, Value.int (nI i)]) ++ List.replicate (2 - (lg_sl ([Value.ref h1, Value.int (nI i)])).length) Slot.unset).toArray = ls at hl ⊢
  have hl : lv_has ls 2 [(0, Value.ref h1), (1, Value.int (nI i))] := hl
  rw [← hHe]
  refine lv_aload_n hx hb dX9_figureOf_0 rfl (lv_at hl 0 rfl) ?_
  refine va_get (D := (dC, dI)) (ci := 9) (v := Value.ref pv) (C := RX9) (T := TX9) (N := 14) hx hb hts inX9 hown hK hP 0 rfl rfl 6 (by decide) (hts _ (gw kw_162 rfl)) (fun _ h9 => h9) rfl dX9_figureOf_1 ?_
  refine va_get (D := (dC, dI)) (ci := 4) (v := Value.ref ef) (C := RX4) (T := TX4) (N := 8) hx hb hts inX4 hown hK hP 1 rfl rfl 1 (by decide) (hts _ (gw kw_36 rfl)) (fun _ h9 => h9) rfl dX9_figureOf_4 ?_
  refine lv_iload_n hx hb dX9_figureOf_7 rfl (lv_at hl 1 rfl) ?_
  have h_1 : vp_in (nI i) 8 := by first | exact vp_in_nI (by omega) (by omega) | (unfold vp_in; decide) | (subst_vars; first | (unfold vp_in; decide) | exact vp_in_nI (by omega) (by omega))
  refine va_iald hx hb hK hP 2 0 rfl rfl h_1 dX9_figureOf_8 ?_
  refine lv_topi (fun x_2 e_2 => ?_)
  have hpd9 := pd_N (cx := [oX9 h1 po pp ps pa pe pb pv pk pu pw pq pt un fw, oX4 pv ek ef ew ep es (nI n) sy dn, cI aC ef 8 ff]) hP hD [0, 1, 2] (by decide) rfl
  have hP9 := hpd9.1
  have hD9 := hpd9.2
  refine W.widen (k := 0) (n := 0) (by omega) (by omega) ?_
  exact W.iret (v := x_2) hx hb hr (fun t ht hW => ⟨⟨x_2, (), rfl, by rw [e_2, nI_clamp (by omega)]; exact hfi, by rw [ht]; exact hP9, va_K.moved hW.alike hK, hD9⟩, hS.F ht⟩) hS.2.2 dX9_figureOf_9

set_option maxHeartbeats 1000000 in
set_option maxRecDepth 100000 in
/-- X9_spreadFromEldest -/
theorem c_X9_spreadFromEldest (l : Launch) (dC : Nat → ClassId) (dI : Nat → Nat → Nat) (aC : Nat → ClassId) (sz : Nat) (h1 : Nat) (po : Nat) (pp : Nat) (ps : Nat) (pa : Nat) (pe : Nat) (pb : Nat) (pv : Nat) (pk : Nat) (pu : Nat) (pw : Nat) (pq : Nat) (pt : Nat) (un : Int32) (fw : Int32) (ek : Nat) (ef : Nat) (ew : Nat) (ep : Nat) (es : Nat) (n : Nat) (sy : Int32) (dn : Int32) (L : List Nat) (g : Nat → Nat → Int32) (fo : Nat → Option Nat) (fp : Nat → Option Nat) (fs : Nat → Option Nat) (ro : Nat → Nat) (rp : Nat → Nat) (rs : Nat → Nat) (i : Nat) (cf : Nat) (O : Nat → Nat) (hgr : GRD L fo fp fs ro rp rs) (hi : i < n ∧ n ≤ 8) (hc : cf ≤ 99) (hO : ∀ q, q < 8 → g (ro i) q = nI (O q)) (hO9 : ∀ q, O q ≤ 99) : Met l yX9_spreadFromEldest (wW yX9_spreadFromEldest cX9_spreadFromEldest 4 (none : Option FieldType)) ({ frames := 1, cells := 0, slots := 0, locals := 23 } : Room) (va_Pc [Value.ref h1, Value.int (nI i), Value.int (nI cf)] (fun U => U.heap.size = sz ∧ va_P (dC, dI) classes (wp [oX9 h1 po pp ps pa pe pb pv pk pu pw pq pt un fw, oX4 pv ek ef ew ep es (nI n) sy dn, cA aC po 8 fo] (va_pl L (plE aC g))) U.heap ∧ va_K (dC, dI) classes (TY aC) U ∧ va_D (fun _ => True) (wp [oX9 h1 po pp ps pa pe pb pv pk pu pw pq pt un fw, oX4 pv ek ef ew ep es (nI n) sy dn, cA aC po 8 fo] (va_pl L (plE aC g))) ∧ NX U)) (va_Qv (fun (g2 : Nat → Nat → Int32) => (∀ q, q < 8 → g2 (ro i) q = nI (sE O i cf (n - 1 - i) q)) ∧ ∀ a, a ≠ ro i → g2 a = g a) (fun (g2 : Nat → Nat → Int32) (t : State) => va_P (dC, dI) classes (wp [oX9 h1 po pp ps pa pe pb pv pk pu pw pq pt un fw, oX4 pv ek ef ew ep es (nI n) sy dn, cA aC po 8 fo] (va_pl L (plE aC g2))) t.heap ∧ va_K (dC, dI) classes (TY aC) t ∧ va_D (va_A (wp [oX9 h1 po pp ps pa pe pb pv pk pu pw pq pt un fw, oX4 pv ek ef ew ep es (nI n) sy dn, cA aC po 8 fo] (va_pl L (plE aC g))) sz) (wp [oX9 h1 po pp ps pa pe pb pv pk pu pw pq pt un fw, oX4 pv ek ef ew ep es (nI n) sy dn, cA aC po 8 fo] (va_pl L (plE aC g2)))) (va_A (wp [oX9 h1 po pp ps pa pe pb pv pk pu pw pq pt un fw, oX4 pv ek ef ew ep es (nI n) sy dn, cA aC po 8 fo] (va_pl L (plE aC g))) sz)) 0 0 (va_A (wp [oX9 h1 po pp ps pa pe pb pv pk pu pw pq pt un fw, oX4 pv ek ef ew ep es (nI n) sy dn, cA aC po 8 fo] (va_pl L (plE aC g))) sz) := by
  refine Met.ofW (cc := cX9_spreadFromEldest) (maxL := 4) (ret := (none : Option FieldType)) (by decide) rfl ?_
  intro p e s m args below meth c s₁ B hml hv
  obtain ⟨rfl, hsz, hP, hK, hD0, hN⟩ := hv
  have hx := B.exec
  have hb := B.bytes
  have hr := B.returns
  have hts0 := atoms_spec (ws := (wW yX9_spreadFromEldest cX9_spreadFromEldest 4 (none : Option FieldType))) B.pre
  have hts : ∀ w9 ∈ lw_G, w9.before ([Value.ref h1, Value.int (nI i), Value.int (nI cf)] : List Value).toArray s = true := fun w9 h9 => hts0 w9 (List.mem_cons_of_mem _ h9)
  have hown : s.vm.findClass RX9 = some m.cls := findClass_of_methodNamed (x := yX9_spreadFromEldest) B.named
  have hlocks := B.notSynchronized
  subst hsz
  have hD := hD0.self (sz := s.heap.size)
  generalize hAe : va_A (wp [oX9 h1 po pp ps pa pe pb pv pk pu pw pq pt un fw, oX4 pv ek ef ew ep es (nI n) sy dn, cA aC po 8 fo] (va_pl L (plE aC g))) s.heap.size = A at hD ⊢
  have hA : ∀ q : Nat, s.heap.size ≤ q → A q := fun q h => by rw [← hAe]; exact Or.inr h
  obtain ⟨H, hHe⟩ : ∃ H : Heap, H = s.heap := ⟨_, rfl⟩
  have hS : va_S A s.heap H [] := by rw [hHe]; exact va_S.rf
  have hP : va_P (dC, dI) classes (wp [oX9 h1 po pp ps pa pe pb pv pk pu pw pq pt un fw, oX4 pv ek ef ew ep es (nI n) sy dn, cA aC po 8 fo] (va_pl L (plE aC g))) H := by rw [hHe]; exact hP
  have hl := lv_entry ([Value.ref h1, Value.int (nI i), Value.int (nI cf)]) (n := 4) (Nat.le_of_ble_eq_true rfl)
  rw [lg_entry_eq]
  generalize (lg_sl ([Value.ref h1, Value.int (nI i), Value.int (nI cf)]) ++ List.replicate (4 - (lg_sl ([Value.ref h1, Value.int (nI i), Value.int (nI cf)])).length) Slot.unset).toArray = ls at hl ⊢
  have hl : lv_has ls 4 [(0, Value.ref h1), (1, Value.int (nI i)), (2, Value.int (nI cf))] := hl
  rw [← hHe]
  refine lv_iload_n hx hb dX9_spreadFromEldest_0 rfl (lv_at hl 1 rfl) ?_
  refine lv_iconst (v := 1) hx hb dX9_spreadFromEldest_1 (by decide) ?_
  refine lv_iadd hx hb dX9_spreadFromEldest_2 ?_
  refine lv_topi (fun x_1 e_1 => ?_)
  refine lv_istore_n (lv' := [(3, Value.int x_1), (0, Value.ref h1), (1, Value.int (nI i)), (2, Value.int (nI cf))]) hx hb dX9_spreadFromEldest_3 rfl hl (by decide) rfl (fun ls hl => ?_)
  have h9 : x_1 = nI (i + 1) := by rw [e_1, nI_1]
  subst h9
  have lp_4 : ∀ (fu : Nat) (j : Nat) (gc : Nat → Nat → Int32) (hfu : n - j < fu) (hj : i < j ∧ j ≤ n) (hg1 : ∀ q, q < 8 → gc (ro i) q = nI (sE O i cf (j - (i + 1)) q)) (hg2 : ∀ a, a ≠ ro i → gc a = g a) (H : Heap) (locs : List Loc) (ls : Array Slot), va_P (dC, dI) classes (wp [oX9 h1 po pp ps pa pe pb pv pk pu pw pq pt un fw, oX4 pv ek ef ew ep es (nI n) sy dn, cA aC po 8 fo] (va_pl L (plE aC gc))) H → va_D A (wp [oX9 h1 po pp ps pa pe pb pv pk pu pw pq pt un fw, oX4 pv ek ef ew ep es (nI n) sy dn, cA aC po 8 fo] (va_pl L (plE aC gc))) → va_S A s.heap H locs → lv_has ls 4 [(0, Value.ref h1), (1, Value.int (nI i)), (2, Value.int (nI cf)), (3, Value.int (nI j))] → W p l e (headSpec (wW yX9_spreadFromEldest cX9_spreadFromEldest 4 (none : Option FieldType)) ({ frames := 1, cells := 0, slots := 0, locals := 23 } : Room)).room s m ([Value.ref h1, Value.int (nI i), Value.int (nI cf)] : List Value).toArray below meth c H locs 0 0 (MQ below (va_Qv (fun (g2 : Nat → Nat → Int32) => (∀ q, q < 8 → g2 (ro i) q = nI (sE O i cf (n - 1 - i) q)) ∧ ∀ a, a ≠ ro i → g2 a = g a) (fun (g2 : Nat → Nat → Int32) (t : State) => va_P (dC, dI) classes (wp [oX9 h1 po pp ps pa pe pb pv pk pu pw pq pt un fw, oX4 pv ek ef ew ep es (nI n) sy dn, cA aC po 8 fo] (va_pl L (plE aC g2))) t.heap ∧ va_K (dC, dI) classes (TY aC) t ∧ va_D A (wp [oX9 h1 po pp ps pa pe pb pv pk pu pw pq pt un fw, oX4 pv ek ef ew ep es (nI n) sy dn, cA aC po 8 fo] (va_pl L (plE aC g2)))) A) ([Value.ref h1, Value.int (nI i), Value.int (nI cf)] : List Value).toArray s 0 0 A) (F0 m 4 ls []) := by
    intro fu
    induction fu with
    | zero => intro j gc hfu; exact absurd hfu (Nat.not_lt_zero _)
    | succ fu ih_4 =>
      intro j gc hfu hj hg1 hg2 H locs ls hP hD hS hl
      refine lv_iload_n hx hb dX9_spreadFromEldest_4 rfl (lv_at hl 3 rfl) ?_
      refine lv_aload_n hx hb dX9_spreadFromEldest_5 rfl (lv_at hl 0 rfl) ?_
      refine va_get (D := (dC, dI)) (ci := 9) (v := Value.ref pv) (C := RX9) (T := TX9) (N := 14) hx hb hts inX9 hown hK hP 0 rfl rfl 6 (by decide) (hts _ (gw kw_162 rfl)) (fun _ h9 => h9) rfl dX9_spreadFromEldest_6 ?_
      refine va_get (D := (dC, dI)) (ci := 4) (v := Value.int (nI n)) (C := RX4) (T := TX4) (N := 8) hx hb hts inX4 hown hK hP 1 rfl rfl 5 (by decide) (hts _ (gw kw_47 rfl)) (fun _ h9 => h9) rfl dX9_spreadFromEldest_9 ?_
      refine lv_icmp_ge (tgt := 28) hx hb dX9_spreadFromEldest_12 (by decide) (fun c_2 => ?_) (fun c_2 => ?_)
      · have hjn : j = n := by
          rcases Nat.lt_or_ge j n with q | q
          · exact absurd c_2 (nI_ge q (by omega))
          · omega
        have hpd9 := pd_P (cx := [oX9 h1 po pp ps pa pe pb pv pk pu pw pq pt un fw, oX4 pv ek ef ew ep es (nI n) sy dn, cA aC po 8 fo]) hP hD [0, 1, 2] (by decide) rfl
        have hP9 := hpd9.1
        have hD9 := hpd9.2
        refine W.widen (k := 0) (n := 0) (by omega) (by omega) ?_
        exact W.vret hx hb hr (fun t ht hW => ⟨⟨(gc), rfl, ⟨fun q hq => by rw [hg1 q hq, hjn, show n - (i + 1) = n - 1 - i by omega], hg2⟩, by rw [ht]; exact hP9, va_K.moved hW.alike hK, hD9⟩, hS.F ht⟩) hS.2.2 dX9_spreadFromEldest_28
      · have hlt : j < n := by
          rcases Nat.lt_or_ge j n with q | q
          · exact q
          · exact absurd (nI_le q (by omega)) c_2
        refine lv_aload_n hx hb dX9_spreadFromEldest_15 rfl (lv_at hl 0 rfl) ?_
        refine lv_iload_n hx hb dX9_spreadFromEldest_16 rfl (lv_at hl 1 rfl) ?_
        refine lv_iload_n hx hb dX9_spreadFromEldest_17 rfl (lv_at hl 3 rfl) ?_
        refine lv_iload_n hx hb dX9_spreadFromEldest_18 rfl (lv_at hl 2 rfl) ?_
        have hpd9 := pdf_P (cx := [oX9 h1 po pp ps pa pe pb pv pk pu pw pq pt un fw, cA aC po 8 fo]) hP hD hS hA [0, 2] (by decide) rfl
        have hPc := hpd9.1
        have hDc := hpd9.2.1
        have hFc := hpd9.2.2
        clear hpd9
        refine va_callv (va_runV (As := [Value.int (nI i), Value.int (nI j), Value.int (nI cf)]) (rest := []) ⟨hx, hb, hml, hown, hts⟩ (c_X9_give l dC dI aC H.size h1 po pp ps pa pe pb pv pk pu pw pq pt un fw L gc fo fp fs ro rp rs i j cf (sE O i cf (j - (i + 1))) (hgr) (by omega) (hc) (hg1) (sE_le hc hO9 _)) ⟨(callB_of 3 hts (gG kw_416) rfl rfl rfl (hts _ (gw kw_11 rfl)) (hts _ (gw kw_413 rfl)) hd_X9_give ⟨Nat.le_of_ble_eq_true rfl, Nat.le_of_ble_eq_true rfl⟩), (hts _ (gw kw_415 rfl)), (hts _ (gw ks_10 rfl))⟩ ⟨fb_std, va_recv (q := (RX9, TX9, 14)) hK hPc (ci := 9) (q0 := 0) rfl rfl, pre_std hPc hK hDc hN⟩ rfl rfl hl.1 rfl (lv_room (Nat.le_of_ble_eq_true rfl)) dX9_spreadFromEldest_19 ⟨Nat.le_of_ble_eq_true rfl, Nat.le_of_ble_eq_true rfl⟩) hS (fun q _ h => hFc q h) hFc (fun u9 t9 H1 locs ht hvm hw_3 hB hz1 hk1 hS => ?_)
        obtain ⟨u_4, rfl⟩ : ∃ z, z = u9 := ⟨_, rfl⟩
        obtain ⟨hP1, hK1, hD1⟩ := hB
        rw [ht] at hP1
        clear hK1
        try dsimp only at hw_3
        have hpd9 : PDx (dC, dI) classes A H1 (wp [oX4 pv ek ef ew ep es (nI n) sy dn, oX9 h1 po pp ps pa pe pb pv pk pu pw pq pt un fw, cA aC po 8 fo] (va_pl L (plE aC u_4))) := jn_P (wr := [oX4 pv ek ef ew ep es (nI n) sy dn]) hFc hk1 hP1 hD1 hP hD [0, 2] [1] rfl rfl (by decide) (by decide)
        have hP := hpd9.1
        have hD := hpd9.2
        clear hpd9
        generalize H1 = H at hP hS ⊢
        clear hPc hDc hFc hz1 hk1 hP1 hD1 ht hvm
        obtain ⟨hv1, hv2⟩ := hw_3
        obtain ⟨x_5, e_5⟩ : ∃ y : Int32, y = (nI j) + 1 := ⟨_, rfl⟩
        refine lv_iinc (v := x_5) (lv' := [(3, Value.int x_5), (0, Value.ref h1), (1, Value.int (nI i)), (2, Value.int (nI cf))]) hx hb dX9_spreadFromEldest_22 hl (k := 3) rfl (by rw [e_5]; rfl) (by decide) rfl (fun ls hl => ?_)
        have h9 : x_5 = nI (j + 1) := by rw [e_5, nI_1]
        subst h9
        refine lv_goto (tgt := 4) hx hb dX9_spreadFromEldest_25 (by decide) ?_
        exact ih_4 (j + 1) u_4 (ms_lt hlt hfu) (by omega) (fun q hq => by rw [hv1 q hq, sE_suc hj.1]) (fun a h => (hv2 a h).trans (hg2 a h)) _ _ _ (plP hP [1, 0, 2] rfl) (plD hD [1, 0, 2] (by decide) rfl) hS (lv_sub hl [1, 2, 3, 0] rfl)
  exact lp_4 ((n - (i + 1)) + 1) (i + 1) g (Nat.lt_succ_self _) (by omega) (fun q hq => by rw [Nat.sub_self]; exact hO q hq) (fun a _ => rfl) _ _ _ (plP hP [0, 1, 2] rfl) (plD hD [0, 1, 2] (by decide) rfl) hS (lv_sub hl [1, 2, 3, 0] rfl)

set_option maxHeartbeats 1000000 in
set_option maxRecDepth 100000 in
/-- X9_shareFairly -/
theorem c_X9_shareFairly (l : Launch) (dC : Nat → ClassId) (dI : Nat → Nat → Nat) (aC : Nat → ClassId) (sz : Nat) (h1 : Nat) (po : Nat) (pp : Nat) (ps : Nat) (pa : Nat) (pe : Nat) (pb : Nat) (pv : Nat) (pk : Nat) (pu : Nat) (pw : Nat) (pq : Nat) (pt : Nat) (un : Int32) (fw : Int32) (ek : Nat) (ef : Nat) (ew : Nat) (ep : Nat) (es : Nat) (n : Nat) (sy : Int32) (dn : Int32) (stf : Nat → Int32) (L : List Nat) (g : Nat → Nat → Int32) (fo : Nat → Option Nat) (fp : Nat → Option Nat) (fs : Nat → Option Nat) (ro : Nat → Nat) (rp : Nat → Nat) (rs : Nat → Nat) (i : Nat) (cq : Nat) (O : Nat → Nat) (hgr : GRD L fo fp fs ro rp rs) (hi : i < n ∧ n ≤ 8) (hcq : stf 0 = nI cq) (hcq9 : cq ≤ 99) (hO : ∀ q, q < 8 → g (ro i) q = nI (O q)) (hO9 : ∀ q, O q ≤ 99) : Met l yX9_shareFairly (wW yX9_shareFairly cX9_shareFairly 5 (none : Option FieldType)) ({ frames := 1, cells := 0, slots := 0, locals := 23 } : Room) (va_Pc [Value.ref h1, Value.int (nI i)] (fun U => U.heap.size = sz ∧ va_P (dC, dI) classes (wp [oX9 h1 po pp ps pa pe pb pv pk pu pw pq pt un fw, oX4 pv ek ef ew ep es (nI n) sy dn, cI aC es 5 stf, cA aC po 8 fo] (va_pl L (plE aC g))) U.heap ∧ va_K (dC, dI) classes (TY aC) U ∧ va_D (fun _ => True) (wp [oX9 h1 po pp ps pa pe pb pv pk pu pw pq pt un fw, oX4 pv ek ef ew ep es (nI n) sy dn, cI aC es 5 stf, cA aC po 8 fo] (va_pl L (plE aC g))) ∧ NX U)) (va_Qv (fun (g2 : Nat → Nat → Int32) => (∀ q, q < 8 → g2 (ro i) q = nI (sE O i (cq / (n - i)) (n - 1 - i) q)) ∧ ∀ a, a ≠ ro i → g2 a = g a) (fun (g2 : Nat → Nat → Int32) (t : State) => va_P (dC, dI) classes (wp [oX9 h1 po pp ps pa pe pb pv pk pu pw pq pt un fw, oX4 pv ek ef ew ep es (nI n) sy dn, cI aC es 5 stf, cA aC po 8 fo] (va_pl L (plE aC g2))) t.heap ∧ va_K (dC, dI) classes (TY aC) t ∧ va_D (va_A (wp [oX9 h1 po pp ps pa pe pb pv pk pu pw pq pt un fw, oX4 pv ek ef ew ep es (nI n) sy dn, cI aC es 5 stf, cA aC po 8 fo] (va_pl L (plE aC g))) sz) (wp [oX9 h1 po pp ps pa pe pb pv pk pu pw pq pt un fw, oX4 pv ek ef ew ep es (nI n) sy dn, cI aC es 5 stf, cA aC po 8 fo] (va_pl L (plE aC g2)))) (va_A (wp [oX9 h1 po pp ps pa pe pb pv pk pu pw pq pt un fw, oX4 pv ek ef ew ep es (nI n) sy dn, cI aC es 5 stf, cA aC po 8 fo] (va_pl L (plE aC g))) sz)) 0 0 (va_A (wp [oX9 h1 po pp ps pa pe pb pv pk pu pw pq pt un fw, oX4 pv ek ef ew ep es (nI n) sy dn, cI aC es 5 stf, cA aC po 8 fo] (va_pl L (plE aC g))) sz) := by
  refine Met.ofW (cc := cX9_shareFairly) (maxL := 5) (ret := (none : Option FieldType)) (by decide) rfl ?_
  intro p e s m args below meth c s₁ B hml hv
  obtain ⟨rfl, hsz, hP, hK, hD0, hN⟩ := hv
  have hx := B.exec
  have hb := B.bytes
  have hr := B.returns
  have hts0 := atoms_spec (ws := (wW yX9_shareFairly cX9_shareFairly 5 (none : Option FieldType))) B.pre
  have hts : ∀ w9 ∈ lw_G, w9.before ([Value.ref h1, Value.int (nI i)] : List Value).toArray s = true := fun w9 h9 => hts0 w9 (List.mem_cons_of_mem _ h9)
  have hown : s.vm.findClass RX9 = some m.cls := findClass_of_methodNamed (x := yX9_shareFairly) B.named
  have hlocks := B.notSynchronized
  subst hsz
  have hD := hD0.self (sz := s.heap.size)
  generalize hAe : va_A (wp [oX9 h1 po pp ps pa pe pb pv pk pu pw pq pt un fw, oX4 pv ek ef ew ep es (nI n) sy dn, cI aC es 5 stf, cA aC po 8 fo] (va_pl L (plE aC g))) s.heap.size = A at hD ⊢
  have hA : ∀ q : Nat, s.heap.size ≤ q → A q := fun q h => by rw [← hAe]; exact Or.inr h
  obtain ⟨H, hHe⟩ : ∃ H : Heap, H = s.heap := ⟨_, rfl⟩
  have hS : va_S A s.heap H [] := by rw [hHe]; exact va_S.rf
  have hP : va_P (dC, dI) classes (wp [oX9 h1 po pp ps pa pe pb pv pk pu pw pq pt un fw, oX4 pv ek ef ew ep es (nI n) sy dn, cI aC es 5 stf, cA aC po 8 fo] (va_pl L (plE aC g))) H := by rw [hHe]; exact hP
  have hl := lv_entry ([Value.ref h1, Value.int (nI i)]) (n := 5) (Nat.le_of_ble_eq_true rfl)
  rw [lg_entry_eq]
  generalize (lg_sl ([Value.ref h1, Value.int (nI i)]) ++ List.replicate (5 - (lg_sl ([Value.ref h1, Value.int (nI i)])).length) Slot.unset).toArray = ls at hl ⊢
  have hl : lv_has ls 5 [(0, Value.ref h1), (1, Value.int (nI i))] := hl
  rw [← hHe]
  have hc : cq / (n - i) ≤ 99 := Nat.le_trans (Nat.div_le_self _ _) hcq9
  refine lv_aload_n hx hb dX9_shareFairly_0 rfl (lv_at hl 0 rfl) ?_
  refine va_get (D := (dC, dI)) (ci := 9) (v := Value.ref pv) (C := RX9) (T := TX9) (N := 14) hx hb hts inX9 hown hK hP 0 rfl rfl 6 (by decide) (hts _ (gw kw_162 rfl)) (fun _ h9 => h9) rfl dX9_shareFairly_1 ?_
  refine va_get (D := (dC, dI)) (ci := 4) (v := Value.int (nI n)) (C := RX4) (T := TX4) (N := 8) hx hb hts inX4 hown hK hP 1 rfl rfl 5 (by decide) (hts _ (gw kw_47 rfl)) (fun _ h9 => h9) rfl dX9_shareFairly_4 ?_
  refine lv_iload_n hx hb dX9_shareFairly_7 rfl (lv_at hl 1 rfl) ?_
  refine lv_isub hx hb dX9_shareFairly_8 ?_
  refine lv_topi (fun x_1 e_1 => ?_)
  have h9 : x_1 = nI (n - i) := by rw [e_1]; exact pk_sub (by omega)
  subst h9
  refine lv_istore_n (lv' := [(2, Value.int (nI (n - i))), (0, Value.ref h1), (1, Value.int (nI i))]) hx hb dX9_shareFairly_9 rfl hl (by decide) rfl (fun ls hl => ?_)
  refine lv_iload_n hx hb dX9_shareFairly_10 rfl (lv_at hl 0 rfl) ?_
  refine lv_if_gt (tgt := 15) hx hb dX9_shareFairly_11 (by decide) (fun c_2 => ?_) (fun c_2 => ?_)
  · refine lv_aload_n hx hb dX9_shareFairly_15 rfl (lv_at hl 1 rfl) ?_
    refine va_get (D := (dC, dI)) (ci := 9) (v := Value.ref pv) (C := RX9) (T := TX9) (N := 14) hx hb hts inX9 hown hK hP 0 rfl rfl 6 (by decide) (hts _ (gw kw_162 rfl)) (fun _ h9 => h9) rfl dX9_shareFairly_16 ?_
    refine va_get (D := (dC, dI)) (ci := 4) (v := Value.ref es) (C := RX4) (T := TX4) (N := 8) hx hb hts inX4 hown hK hP 1 rfl rfl 4 (by decide) (hts _ (gw kw_44 rfl)) (fun _ h9 => h9) rfl dX9_shareFairly_19 ?_
    refine lv_iconst (v := 0) hx hb dX9_shareFairly_22 (by decide) ?_
    have h_3 : vp_in 0 5 := by first | exact vp_in_nI (by omega) (by omega) | (unfold vp_in; decide) | (subst_vars; first | (unfold vp_in; decide) | exact vp_in_nI (by omega) (by omega))
    refine va_iald hx hb hK hP 2 0 rfl rfl h_3 dX9_shareFairly_23 ?_
    refine lv_topi (fun x_4 e_4 => ?_)
    have h9 : x_4 = nI cq := by rw [e_4]; exact hcq
    subst h9
    refine lv_iload_n hx hb dX9_shareFairly_24 rfl (lv_at hl 0 rfl) ?_
    refine lv_idiv hx hb dX9_shareFairly_25 (nI_ne0 (by omega) (by omega)) ?_
    refine lv_topi (fun x_5 e_5 => ?_)
    have h9 : x_5 = nI (cq / (n - i)) := by rw [e_5]; exact pk_div (by omega) (by omega) (by omega)
    subst h9
    refine lv_istore_n (lv' := [(3, Value.int (nI (cq / (n - i)))), (2, Value.int (nI (n - i))), (0, Value.ref h1), (1, Value.int (nI i))]) hx hb dX9_shareFairly_26 rfl hl (by decide) rfl (fun ls hl => ?_)
    refine lv_iload_n hx hb dX9_shareFairly_27 rfl (lv_at hl 3 rfl) ?_
    refine lv_iconst (v := 1) hx hb dX9_shareFairly_28 (by decide) ?_
    refine lv_iadd hx hb dX9_shareFairly_29 ?_
    refine lv_topi (fun x_6 e_6 => ?_)
    refine lv_istore (lv' := [(4, Value.int x_6), (3, Value.int (nI (cq / (n - i)))), (2, Value.int (nI (n - i))), (0, Value.ref h1), (1, Value.int (nI i))]) hx hb dX9_shareFairly_30 hl (by decide) rfl (fun ls hl => ?_)
    have h9 : x_6 = nI (i + 1) := by rw [e_6, nI_1]
    subst h9
    have lp_32 : ∀ (fu : Nat) (j : Nat) (gc : Nat → Nat → Int32) (hfu : n - j < fu) (hj : i < j ∧ j ≤ n) (hg1 : ∀ q, q < 8 → gc (ro i) q = nI (sE O i (cq / (n - i)) (j - (i + 1)) q)) (hg2 : ∀ a, a ≠ ro i → gc a = g a) (H : Heap) (locs : List Loc) (ls : Array Slot), va_P (dC, dI) classes (wp [oX9 h1 po pp ps pa pe pb pv pk pu pw pq pt un fw, oX4 pv ek ef ew ep es (nI n) sy dn, cI aC es 5 stf, cA aC po 8 fo] (va_pl L (plE aC gc))) H → va_D A (wp [oX9 h1 po pp ps pa pe pb pv pk pu pw pq pt un fw, oX4 pv ek ef ew ep es (nI n) sy dn, cI aC es 5 stf, cA aC po 8 fo] (va_pl L (plE aC gc))) → va_S A s.heap H locs → lv_has ls 5 [(0, Value.ref h1), (1, Value.int (nI i)), (3, Value.int (nI (cq / (n - i)))), (4, Value.int (nI j))] → W p l e (headSpec (wW yX9_shareFairly cX9_shareFairly 5 (none : Option FieldType)) ({ frames := 1, cells := 0, slots := 0, locals := 23 } : Room)).room s m ([Value.ref h1, Value.int (nI i)] : List Value).toArray below meth c H locs 0 0 (MQ below (va_Qv (fun (g2 : Nat → Nat → Int32) => (∀ q, q < 8 → g2 (ro i) q = nI (sE O i (cq / (n - i)) (n - 1 - i) q)) ∧ ∀ a, a ≠ ro i → g2 a = g a) (fun (g2 : Nat → Nat → Int32) (t : State) => va_P (dC, dI) classes (wp [oX9 h1 po pp ps pa pe pb pv pk pu pw pq pt un fw, oX4 pv ek ef ew ep es (nI n) sy dn, cI aC es 5 stf, cA aC po 8 fo] (va_pl L (plE aC g2))) t.heap ∧ va_K (dC, dI) classes (TY aC) t ∧ va_D A (wp [oX9 h1 po pp ps pa pe pb pv pk pu pw pq pt un fw, oX4 pv ek ef ew ep es (nI n) sy dn, cI aC es 5 stf, cA aC po 8 fo] (va_pl L (plE aC g2)))) A) ([Value.ref h1, Value.int (nI i)] : List Value).toArray s 0 0 A) (F0 m 32 ls []) := by
      intro fu
      induction fu with
      | zero => intro j gc hfu; exact absurd hfu (Nat.not_lt_zero _)
      | succ fu ih_32 =>
        intro j gc hfu hj hg1 hg2 H locs ls hP hD hS hl
        refine lv_iload hx hb dX9_shareFairly_32 (lv_at hl 3 rfl) ?_
        refine lv_aload_n hx hb dX9_shareFairly_34 rfl (lv_at hl 0 rfl) ?_
        refine va_get (D := (dC, dI)) (ci := 9) (v := Value.ref pv) (C := RX9) (T := TX9) (N := 14) hx hb hts inX9 hown hK hP 0 rfl rfl 6 (by decide) (hts _ (gw kw_162 rfl)) (fun _ h9 => h9) rfl dX9_shareFairly_35 ?_
        refine va_get (D := (dC, dI)) (ci := 4) (v := Value.int (nI n)) (C := RX4) (T := TX4) (N := 8) hx hb hts inX4 hown hK hP 1 rfl rfl 5 (by decide) (hts _ (gw kw_47 rfl)) (fun _ h9 => h9) rfl dX9_shareFairly_38 ?_
        refine lv_icmp_ge (tgt := 58) hx hb dX9_shareFairly_41 (by decide) (fun c_7 => ?_) (fun c_7 => ?_)
        · have hjn : j = n := by
            rcases Nat.lt_or_ge j n with q | q
            · exact absurd c_7 (nI_ge q (by omega))
            · omega
          have hpd9 := pd_P (cx := [oX9 h1 po pp ps pa pe pb pv pk pu pw pq pt un fw, oX4 pv ek ef ew ep es (nI n) sy dn, cI aC es 5 stf, cA aC po 8 fo]) hP hD [0, 1, 2, 3] (by decide) rfl
          have hP9 := hpd9.1
          have hD9 := hpd9.2
          refine W.widen (k := 0) (n := 0) (by omega) (by omega) ?_
          exact W.vret hx hb hr (fun t ht hW => ⟨⟨(gc), rfl, ⟨fun q hq => by rw [hg1 q hq, hjn, show n - (i + 1) = n - 1 - i by omega], hg2⟩, by rw [ht]; exact hP9, va_K.moved hW.alike hK, hD9⟩, hS.F ht⟩) hS.2.2 dX9_shareFairly_58
        · have hlt : j < n := by
            rcases Nat.lt_or_ge j n with q | q
            · exact q
            · exact absurd (nI_le q (by omega)) c_7
          refine lv_aload_n hx hb dX9_shareFairly_44 rfl (lv_at hl 0 rfl) ?_
          refine lv_iload_n hx hb dX9_shareFairly_45 rfl (lv_at hl 1 rfl) ?_
          refine lv_iload hx hb dX9_shareFairly_46 (lv_at hl 3 rfl) ?_
          refine lv_iload_n hx hb dX9_shareFairly_48 rfl (lv_at hl 2 rfl) ?_
          have hpd9 := pdf_P (cx := [oX9 h1 po pp ps pa pe pb pv pk pu pw pq pt un fw, cA aC po 8 fo]) hP hD hS hA [0, 3] (by decide) rfl
          have hPc := hpd9.1
          have hDc := hpd9.2.1
          have hFc := hpd9.2.2
          clear hpd9
          refine va_callv (va_runV (As := [Value.int (nI i), Value.int (nI j), Value.int (nI (cq / (n - i)))]) (rest := []) ⟨hx, hb, hml, hown, hts⟩ (c_X9_give l dC dI aC H.size h1 po pp ps pa pe pb pv pk pu pw pq pt un fw L gc fo fp fs ro rp rs i j (cq / (n - i)) (sE O i (cq / (n - i)) (j - (i + 1))) (hgr) (by omega) (hc) (hg1) (sE_le hc hO9 _)) ⟨(callB_of 3 hts (gG kw_416) rfl rfl rfl (hts _ (gw kw_11 rfl)) (hts _ (gw kw_413 rfl)) hd_X9_give ⟨Nat.le_of_ble_eq_true rfl, Nat.le_of_ble_eq_true rfl⟩), (hts _ (gw kw_415 rfl)), (hts _ (gw ks_10 rfl))⟩ ⟨fb_std, va_recv (q := (RX9, TX9, 14)) hK hPc (ci := 9) (q0 := 0) rfl rfl, pre_std hPc hK hDc hN⟩ rfl rfl hl.1 rfl (lv_room (Nat.le_of_ble_eq_true rfl)) dX9_shareFairly_49 ⟨Nat.le_of_ble_eq_true rfl, Nat.le_of_ble_eq_true rfl⟩) hS (fun q _ h => hFc q h) hFc (fun u9 t9 H1 locs ht hvm hw_8 hB hz1 hk1 hS => ?_)
          obtain ⟨u_9, rfl⟩ : ∃ z, z = u9 := ⟨_, rfl⟩
          obtain ⟨hP1, hK1, hD1⟩ := hB
          rw [ht] at hP1
          clear hK1
          try dsimp only at hw_8
          have hpd9 : PDx (dC, dI) classes A H1 (wp [oX4 pv ek ef ew ep es (nI n) sy dn, cI aC es 5 stf, oX9 h1 po pp ps pa pe pb pv pk pu pw pq pt un fw, cA aC po 8 fo] (va_pl L (plE aC u_9))) := jn_P (wr := [oX4 pv ek ef ew ep es (nI n) sy dn, cI aC es 5 stf]) hFc hk1 hP1 hD1 hP hD [0, 3] [1, 2] rfl rfl (by decide) (by decide)
          have hP := hpd9.1
          have hD := hpd9.2
          clear hpd9
          generalize H1 = H at hP hS ⊢
          clear hPc hDc hFc hz1 hk1 hP1 hD1 ht hvm
          obtain ⟨hv1, hv2⟩ := hw_8
          obtain ⟨x_10, e_10⟩ : ∃ y : Int32, y = (nI j) + 1 := ⟨_, rfl⟩
          refine lv_iinc (v := x_10) (lv' := [(4, Value.int x_10), (0, Value.ref h1), (1, Value.int (nI i)), (3, Value.int (nI (cq / (n - i))))]) hx hb dX9_shareFairly_52 hl (k := 3) rfl (by rw [e_10]; rfl) (by decide) rfl (fun ls hl => ?_)
          have h9 : x_10 = nI (j + 1) := by rw [e_10, nI_1]
          subst h9
          refine lv_goto (tgt := 32) hx hb dX9_shareFairly_55 (by decide) ?_
          exact ih_32 (j + 1) u_9 (ms_lt hlt hfu) (by omega) (fun q hq => by rw [hv1 q hq, sE_suc hj.1]) (fun a h => (hv2 a h).trans (hg2 a h)) _ _ _ (plP hP [2, 0, 1, 3] rfl) (plD hD [2, 0, 1, 3] (by decide) rfl) hS (lv_sub hl [1, 2, 3, 0] rfl)
    exact lp_32 ((n - (i + 1)) + 1) (i + 1) g (Nat.lt_succ_self _) (by omega) (fun q hq => by rw [Nat.sub_self]; exact hO q hq) (fun a _ => rfl) _ _ _ (plP hP [0, 1, 2, 3] rfl) (plD hD [0, 1, 2, 3] (by decide) rfl) hS (lv_sub hl [3, 4, 1, 0] rfl)
  · exact absurd (nI_lt (a := 0) (b := n - i) (by omega) (by omega)) c_2

set_option maxHeartbeats 1000000 in
set_option maxRecDepth 100000 in
/-- X9_spreadFromYoungest -/
theorem c_X9_spreadFromYoungest (l : Launch) (dC : Nat → ClassId) (dI : Nat → Nat → Nat) (aC : Nat → ClassId) (sz : Nat) (h1 : Nat) (po : Nat) (pp : Nat) (ps : Nat) (pa : Nat) (pe : Nat) (pb : Nat) (pv : Nat) (pk : Nat) (pu : Nat) (pw : Nat) (pq : Nat) (pt : Nat) (un : Int32) (fw : Int32) (ek : Nat) (ef : Nat) (ew : Nat) (ep : Nat) (es : Nat) (n : Nat) (sy : Int32) (dn : Int32) (L : List Nat) (g : Nat → Nat → Int32) (fo : Nat → Option Nat) (fp : Nat → Option Nat) (fs : Nat → Option Nat) (ro : Nat → Nat) (rp : Nat → Nat) (rs : Nat → Nat) (i : Nat) (cf : Nat) (O : Nat → Nat) (hgr : GRD L fo fp fs ro rp rs) (hi : i < n ∧ n ≤ 8) (hc : cf ≤ 99) (hO : ∀ q, q < 8 → g (ro i) q = nI (O q)) (hO9 : ∀ q, O q ≤ 99) : Met l yX9_spreadFromYoungest (wW yX9_spreadFromYoungest cX9_spreadFromYoungest 4 (none : Option FieldType)) ({ frames := 1, cells := 0, slots := 0, locals := 23 } : Room) (va_Pc [Value.ref h1, Value.int (nI i), Value.int (nI cf)] (fun U => U.heap.size = sz ∧ va_P (dC, dI) classes (wp [oX9 h1 po pp ps pa pe pb pv pk pu pw pq pt un fw, oX4 pv ek ef ew ep es (nI n) sy dn, cA aC po 8 fo] (va_pl L (plE aC g))) U.heap ∧ va_K (dC, dI) classes (TY aC) U ∧ va_D (fun _ => True) (wp [oX9 h1 po pp ps pa pe pb pv pk pu pw pq pt un fw, oX4 pv ek ef ew ep es (nI n) sy dn, cA aC po 8 fo] (va_pl L (plE aC g))) ∧ NX U)) (va_Qv (fun (g2 : Nat → Nat → Int32) => (∀ q, q < 8 → g2 (ro i) q = nI (sY O n i cf (n - 1 - i) q)) ∧ ∀ a, a ≠ ro i → g2 a = g a) (fun (g2 : Nat → Nat → Int32) (t : State) => va_P (dC, dI) classes (wp [oX9 h1 po pp ps pa pe pb pv pk pu pw pq pt un fw, oX4 pv ek ef ew ep es (nI n) sy dn, cA aC po 8 fo] (va_pl L (plE aC g2))) t.heap ∧ va_K (dC, dI) classes (TY aC) t ∧ va_D (va_A (wp [oX9 h1 po pp ps pa pe pb pv pk pu pw pq pt un fw, oX4 pv ek ef ew ep es (nI n) sy dn, cA aC po 8 fo] (va_pl L (plE aC g))) sz) (wp [oX9 h1 po pp ps pa pe pb pv pk pu pw pq pt un fw, oX4 pv ek ef ew ep es (nI n) sy dn, cA aC po 8 fo] (va_pl L (plE aC g2)))) (va_A (wp [oX9 h1 po pp ps pa pe pb pv pk pu pw pq pt un fw, oX4 pv ek ef ew ep es (nI n) sy dn, cA aC po 8 fo] (va_pl L (plE aC g))) sz)) 0 0 (va_A (wp [oX9 h1 po pp ps pa pe pb pv pk pu pw pq pt un fw, oX4 pv ek ef ew ep es (nI n) sy dn, cA aC po 8 fo] (va_pl L (plE aC g))) sz) := by
  refine Met.ofW (cc := cX9_spreadFromYoungest) (maxL := 4) (ret := (none : Option FieldType)) (by decide) rfl ?_
  intro p e s m args below meth c s₁ B hml hv
  obtain ⟨rfl, hsz, hP, hK, hD0, hN⟩ := hv
  have hx := B.exec
  have hb := B.bytes
  have hr := B.returns
  have hts0 := atoms_spec (ws := (wW yX9_spreadFromYoungest cX9_spreadFromYoungest 4 (none : Option FieldType))) B.pre
  have hts : ∀ w9 ∈ lw_G, w9.before ([Value.ref h1, Value.int (nI i), Value.int (nI cf)] : List Value).toArray s = true := fun w9 h9 => hts0 w9 (List.mem_cons_of_mem _ h9)
  have hown : s.vm.findClass RX9 = some m.cls := findClass_of_methodNamed (x := yX9_spreadFromYoungest) B.named
  have hlocks := B.notSynchronized
  subst hsz
  have hD := hD0.self (sz := s.heap.size)
  generalize hAe : va_A (wp [oX9 h1 po pp ps pa pe pb pv pk pu pw pq pt un fw, oX4 pv ek ef ew ep es (nI n) sy dn, cA aC po 8 fo] (va_pl L (plE aC g))) s.heap.size = A at hD ⊢
  have hA : ∀ q : Nat, s.heap.size ≤ q → A q := fun q h => by rw [← hAe]; exact Or.inr h
  obtain ⟨H, hHe⟩ : ∃ H : Heap, H = s.heap := ⟨_, rfl⟩
  have hS : va_S A s.heap H [] := by rw [hHe]; exact va_S.rf
  have hP : va_P (dC, dI) classes (wp [oX9 h1 po pp ps pa pe pb pv pk pu pw pq pt un fw, oX4 pv ek ef ew ep es (nI n) sy dn, cA aC po 8 fo] (va_pl L (plE aC g))) H := by rw [hHe]; exact hP
  have hl := lv_entry ([Value.ref h1, Value.int (nI i), Value.int (nI cf)]) (n := 4) (Nat.le_of_ble_eq_true rfl)
  rw [lg_entry_eq]
  generalize (lg_sl ([Value.ref h1, Value.int (nI i), Value.int (nI cf)]) ++ List.replicate (4 - (lg_sl ([Value.ref h1, Value.int (nI i), Value.int (nI cf)])).length) Slot.unset).toArray = ls at hl ⊢
  have hl : lv_has ls 4 [(0, Value.ref h1), (1, Value.int (nI i)), (2, Value.int (nI cf))] := hl
  rw [← hHe]
  refine lv_aload_n hx hb dX9_spreadFromYoungest_0 rfl (lv_at hl 0 rfl) ?_
  refine va_get (D := (dC, dI)) (ci := 9) (v := Value.ref pv) (C := RX9) (T := TX9) (N := 14) hx hb hts inX9 hown hK hP 0 rfl rfl 6 (by decide) (hts _ (gw kw_162 rfl)) (fun _ h9 => h9) rfl dX9_spreadFromYoungest_1 ?_
  refine va_get (D := (dC, dI)) (ci := 4) (v := Value.int (nI n)) (C := RX4) (T := TX4) (N := 8) hx hb hts inX4 hown hK hP 1 rfl rfl 5 (by decide) (hts _ (gw kw_47 rfl)) (fun _ h9 => h9) rfl dX9_spreadFromYoungest_4 ?_
  refine lv_iconst (v := 1) hx hb dX9_spreadFromYoungest_7 (by decide) ?_
  refine lv_isub hx hb dX9_spreadFromYoungest_8 ?_
  refine lv_topi (fun x_1 e_1 => ?_)
  have h9 : x_1 = nI (n - 1 - 0) := by rw [e_1]; exact pk_sub (a := n) (b := 1) (by omega)
  subst h9
  refine lv_istore_n (lv' := [(3, Value.int (nI (n - 1 - 0))), (0, Value.ref h1), (1, Value.int (nI i)), (2, Value.int (nI cf))]) hx hb dX9_spreadFromYoungest_9 rfl hl (by decide) rfl (fun ls hl => ?_)
  have lp_10 : ∀ (fu : Nat) (k : Nat) (gc : Nat → Nat → Int32) (hfu : n - k < fu) (hk : k ≤ n - 1 - i) (hg1 : ∀ q, q < 8 → gc (ro i) q = nI (sY O n i cf k q)) (hg2 : ∀ a, a ≠ ro i → gc a = g a) (H : Heap) (locs : List Loc) (ls : Array Slot), va_P (dC, dI) classes (wp [oX9 h1 po pp ps pa pe pb pv pk pu pw pq pt un fw, oX4 pv ek ef ew ep es (nI n) sy dn, cA aC po 8 fo] (va_pl L (plE aC gc))) H → va_D A (wp [oX9 h1 po pp ps pa pe pb pv pk pu pw pq pt un fw, oX4 pv ek ef ew ep es (nI n) sy dn, cA aC po 8 fo] (va_pl L (plE aC gc))) → va_S A s.heap H locs → lv_has ls 4 [(0, Value.ref h1), (1, Value.int (nI i)), (2, Value.int (nI cf)), (3, Value.int (nI (n - 1 - k)))] → W p l e (headSpec (wW yX9_spreadFromYoungest cX9_spreadFromYoungest 4 (none : Option FieldType)) ({ frames := 1, cells := 0, slots := 0, locals := 23 } : Room)).room s m ([Value.ref h1, Value.int (nI i), Value.int (nI cf)] : List Value).toArray below meth c H locs 0 0 (MQ below (va_Qv (fun (g2 : Nat → Nat → Int32) => (∀ q, q < 8 → g2 (ro i) q = nI (sY O n i cf (n - 1 - i) q)) ∧ ∀ a, a ≠ ro i → g2 a = g a) (fun (g2 : Nat → Nat → Int32) (t : State) => va_P (dC, dI) classes (wp [oX9 h1 po pp ps pa pe pb pv pk pu pw pq pt un fw, oX4 pv ek ef ew ep es (nI n) sy dn, cA aC po 8 fo] (va_pl L (plE aC g2))) t.heap ∧ va_K (dC, dI) classes (TY aC) t ∧ va_D A (wp [oX9 h1 po pp ps pa pe pb pv pk pu pw pq pt un fw, oX4 pv ek ef ew ep es (nI n) sy dn, cA aC po 8 fo] (va_pl L (plE aC g2)))) A) ([Value.ref h1, Value.int (nI i), Value.int (nI cf)] : List Value).toArray s 0 0 A) (F0 m 10 ls []) := by
    intro fu
    induction fu with
    | zero => intro k gc hfu; exact absurd hfu (Nat.not_lt_zero _)
    | succ fu ih_10 =>
      intro k gc hfu hk hg1 hg2 H locs ls hP hD hS hl
      refine lv_iload_n hx hb dX9_spreadFromYoungest_10 rfl (lv_at hl 3 rfl) ?_
      refine lv_iload_n hx hb dX9_spreadFromYoungest_11 rfl (lv_at hl 1 rfl) ?_
      refine lv_icmp_le (tgt := 28) hx hb dX9_spreadFromYoungest_12 (by decide) (fun c_2 => ?_) (fun c_2 => ?_)
      · have hkn : k = n - 1 - i := by
          have := (nI_leI (a := n - 1 - k) (b := i) (by omega) (by omega)).mp c_2
          omega
        have hpd9 := pd_P (cx := [oX9 h1 po pp ps pa pe pb pv pk pu pw pq pt un fw, oX4 pv ek ef ew ep es (nI n) sy dn, cA aC po 8 fo]) hP hD [0, 1, 2] (by decide) rfl
        have hP9 := hpd9.1
        have hD9 := hpd9.2
        refine W.widen (k := 0) (n := 0) (by omega) (by omega) ?_
        exact W.vret hx hb hr (fun t ht hW => ⟨⟨(gc), rfl, ⟨fun q hq => by rw [hg1 q hq, hkn], hg2⟩, by rw [ht]; exact hP9, va_K.moved hW.alike hK, hD9⟩, hS.F ht⟩) hS.2.2 dX9_spreadFromYoungest_28
      · have hlt : k < n - 1 - i := by
          rcases Nat.lt_or_ge k (n - 1 - i) with q | q
          · exact q
          · exact absurd (nI_le (a := n - 1 - k) (b := i) (by omega) (by omega)) c_2
        refine lv_aload_n hx hb dX9_spreadFromYoungest_15 rfl (lv_at hl 0 rfl) ?_
        refine lv_iload_n hx hb dX9_spreadFromYoungest_16 rfl (lv_at hl 1 rfl) ?_
        refine lv_iload_n hx hb dX9_spreadFromYoungest_17 rfl (lv_at hl 3 rfl) ?_
        refine lv_iload_n hx hb dX9_spreadFromYoungest_18 rfl (lv_at hl 2 rfl) ?_
        have hpd9 := pdf_P (cx := [oX9 h1 po pp ps pa pe pb pv pk pu pw pq pt un fw, cA aC po 8 fo]) hP hD hS hA [0, 2] (by decide) rfl
        have hPc := hpd9.1
        have hDc := hpd9.2.1
        have hFc := hpd9.2.2
        clear hpd9
        refine va_callv (va_runV (As := [Value.int (nI i), Value.int (nI (n - 1 - k)), Value.int (nI cf)]) (rest := []) ⟨hx, hb, hml, hown, hts⟩ (c_X9_give l dC dI aC H.size h1 po pp ps pa pe pb pv pk pu pw pq pt un fw L gc fo fp fs ro rp rs i (n - 1 - k) cf (sY O n i cf k) (hgr) (by omega) (hc) (hg1) (sY_le hc hO9 _)) ⟨(callB_of 3 hts (gG kw_416) rfl rfl rfl (hts _ (gw kw_11 rfl)) (hts _ (gw kw_413 rfl)) hd_X9_give ⟨Nat.le_of_ble_eq_true rfl, Nat.le_of_ble_eq_true rfl⟩), (hts _ (gw kw_415 rfl)), (hts _ (gw ks_10 rfl))⟩ ⟨fb_std, va_recv (q := (RX9, TX9, 14)) hK hPc (ci := 9) (q0 := 0) rfl rfl, pre_std hPc hK hDc hN⟩ rfl rfl hl.1 rfl (lv_room (Nat.le_of_ble_eq_true rfl)) dX9_spreadFromYoungest_19 ⟨Nat.le_of_ble_eq_true rfl, Nat.le_of_ble_eq_true rfl⟩) hS (fun q _ h => hFc q h) hFc (fun u9 t9 H1 locs ht hvm hw_3 hB hz1 hk1 hS => ?_)
        obtain ⟨u_4, rfl⟩ : ∃ z, z = u9 := ⟨_, rfl⟩
        obtain ⟨hP1, hK1, hD1⟩ := hB
        rw [ht] at hP1
        clear hK1
        try dsimp only at hw_3
        have hpd9 : PDx (dC, dI) classes A H1 (wp [oX4 pv ek ef ew ep es (nI n) sy dn, oX9 h1 po pp ps pa pe pb pv pk pu pw pq pt un fw, cA aC po 8 fo] (va_pl L (plE aC u_4))) := jn_P (wr := [oX4 pv ek ef ew ep es (nI n) sy dn]) hFc hk1 hP1 hD1 hP hD [0, 2] [1] rfl rfl (by decide) (by decide)
        have hP := hpd9.1
        have hD := hpd9.2
        clear hpd9
        generalize H1 = H at hP hS ⊢
        clear hPc hDc hFc hz1 hk1 hP1 hD1 ht hvm
        obtain ⟨hv1, hv2⟩ := hw_3
        obtain ⟨x_5, e_5⟩ : ∃ y : Int32, y = (nI (n - 1 - k)) + (-1) := ⟨_, rfl⟩
        refine lv_iinc (v := x_5) (lv' := [(3, Value.int x_5), (0, Value.ref h1), (1, Value.int (nI i)), (2, Value.int (nI cf))]) hx hb dX9_spreadFromYoungest_22 hl (k := 3) rfl (by rw [e_5]; rfl) (by decide) rfl (fun ls hl => ?_)
        have h9 : x_5 = nI (n - 1 - (k + 1)) := by rw [e_5, show n - 1 - k = (n - 1 - (k + 1)) + 1 by omega]; exact pk_m1 _
        subst h9
        refine lv_goto (tgt := 10) hx hb dX9_spreadFromYoungest_25 (by decide) ?_
        exact ih_10 (k + 1) u_4 (by omega) (by omega) (hv1) (fun a h => (hv2 a h).trans (hg2 a h)) _ _ _ (plP hP [1, 0, 2] rfl) (plD hD [1, 0, 2] (by decide) rfl) hS (lv_sub hl [1, 2, 3, 0] rfl)
  exact lp_10 ((n - 0) + 1) 0 g (Nat.lt_succ_self _) (by omega) (hO) (fun a _ => rfl) _ _ _ (plP hP [0, 1, 2] rfl) (plD hD [0, 1, 2] (by decide) rfl) hS (lv_sub hl [1, 2, 3, 0] rfl)
