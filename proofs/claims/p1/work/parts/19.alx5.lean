theorem FS_suc {law tie : Int32} {c n i : Nat} (hi : i < n) : FS law tie c n (n - i) = STG law tie c n i (FS law tie c n (n - (i + 1))) := by
  obtain ⟨d, hd⟩ : ∃ d, n - (i + 1) = d := ⟨_, rfl⟩
  rw [hd, show n - i = d + 1 by omega]
  show STG law tie c n (n - (d + 1)) (FS law tie c n d) = _
  rw [show n - (d + 1) = i by omega]
theorem st_ok {law tie : Int32} {c n i : Nat} {f og sc : Nat → Int32} {x : Int32} (hi : i < n) (hn : n ≤ 60) (hcc : cc1 law (fun j => ask tie (FS law tie c n (n - (i + 1)) j)) c n i ≤ c)
    (hog : ∀ q, q < 60 → og q = nI (OF (fun j => ask tie (FS law tie c n (n - (i + 1)) j)) (i + 1) (n - 1 - i) (mm law (fun j => ask tie (FS law tie c n (n - (i + 1)) j)) n i) (vv law (fun j => ask tie (FS law tie c n (n - (i + 1)) j)) c n i) q))
    (hx : x = nI c - nI (cc1 law (fun j => ask tie (FS law tie c n (n - (i + 1)) j)) c n i)) (hf : f = upd (va_cpy og sc 0 0 60) i x) : ∀ j, i ≤ j → j < n → f j = iI (FS law tie c n (n - i) j) := by
  intro j h1 h2
  rw [hf, FS_suc hi]
  unfold STG
  rw [if_pos hcc]
  by_cases e : j = i
  · subst e
    rw [pk_us, if_pos rfl, hx, nI_iI, nI_iI, iI_sub]
  · rw [pk_un e, if_neg e, sb_cpy0 (by omega), hog j (by omega), nI_iI]
theorem st_no {law tie : Int32} {c n i : Nat} {f sc : Nat → Int32} (hi : i < n) (hcc : ¬ cc1 law (fun j => ask tie (FS law tie c n (n - (i + 1)) j)) c n i ≤ c)
    (hsc : ∀ j, i < j → j < n → sc j = iI (FS law tie c n (n - (i + 1)) j)) (hf : f = upd sc i (-1)) : ∀ j, i ≤ j → j < n → f j = iI (FS law tie c n (n - i) j) := by
  intro j h1 h2
  rw [hf, FS_suc hi]
  unfold STG
  rw [if_neg hcc]
  by_cases e : j = i
  · subst e
    rw [pk_us, if_pos rfl]
    rfl
  · rw [pk_un e, if_neg e]
    exact hsc j (by omega) h2
theorem cc1_le {law : Int32} {Q : Nat → Nat} {c n i v : Nat} (hn : n ≤ 60) (hv : vv law Q c n i = v) (h2 : ∀ u, u < v → stp Q (i + 1) (n - 1 - i) (mm law Q n i) c u = false) (h3 : v ≤ 100) (hc : c ≤ 99) : cc1 law Q c n i ≤ 70000 := by
  unfold cc1
  rw [hv]
  match v, h2, h3 with
  | 0, _, _ => exact Nat.zero_le _
  | u + 1, h2, h3 =>
    have h4 := (stp_f.mp (h2 u (Nat.lt_succ_self u))).2
    have h5 := cv_le (Q := Q) (a := i + 1) (y := n - 1 - i) (v := u + 1)
    have h6 := mul_le_60 (w := u + 1) (t := min (cv Q (i + 1) (n - 1 - i) (u + 1)) (mm law Q n i - cu Q (i + 1) (n - 1 - i) u)) (by omega) (by omega)
    show co Q (i + 1) (n - 1 - i) (mm law Q n i) u + _ ≤ 70000
    omega
/-- the answer of alike -/
def ALK (sf : Nat → Int32) (a1 a2 a3 a4 : Int32) : Int32 :=
  if a1 < 1 ∨ a2 < 0 ∨ a3 < 0 then 1000000004 else if 60 < a1 ∨ 99 < a2 ∨ a1 ≤ a3 then 1000000006 else
  if a4 = 0 then iI (FS (sf 1) (sf 2) a2.toNatClampNeg a1.toNatClampNeg a1.toNatClampNeg a3.toNatClampNeg) else
  if FS (sf 1) (sf 2) a2.toNatClampNeg a1.toNatClampNeg a1.toNatClampNeg 0 = -1 then 0 else 1
theorem ALK_in {sf : Nat → Int32} {n c k : Nat} {a4 : Int32} (h1 : 1 ≤ n) (h2 : n ≤ 60) (h3 : c ≤ 99) (h4 : k < n) : ALK sf (nI n) (nI c) (nI k) a4 = if a4 = 0 then iI (FS (sf 1) (sf 2) c n n k) else if FS (sf 1) (sf 2) c n n 0 = -1 then 0 else 1 := by
  unfold ALK
  rw [nI_clamp (by omega), nI_clamp (by omega), nI_clamp (by omega)]
  rw [if_neg (fun q => by
    rcases q with q | q | q
    · have := (nI_ltI (a := n) (b := 1) (by omega) (by omega)).mp q
      omega
    · exact nI_pos (by omega) q
    · exact nI_pos (by omega) q), if_neg (fun q => by
    rcases q with q | q | q
    · have := (nI_ltI (a := 60) (b := n) (by omega) (by omega)).mp q
      omega
    · have := (nI_ltI (a := 99) (b := c) (by omega) (by omega)).mp q
      omega
    · have := (nI_leI (a := n) (b := k) (by omega) (by omega)).mp q
      omega)]
theorem al_of {x M : Int32} {N : Nat} (hM : M.toInt = N) (h : ¬ x < 0) (h5 : ¬ M < x) : ∃ j : Nat, j ≤ N ∧ x = nI j := nI_of2 hM h (Int32.not_lt.mp h5)
theorem lt1_0 {x : Int32} (h : ¬ x < 1) : ¬ x < 0 := fun q => h (Int32.lt_trans q (by decide))

set_option maxHeartbeats 4000000 in
set_option maxRecDepth 100000 in
/-- X2_solve -/
theorem c_X2_solve (l : Launch) (dC : Nat → ClassId) (dI : Nat → Nat → Nat) (aC : Nat → ClassId) (sz : Nat) (h1 : Nat) (cs : Nat) (ca : Nat) (cf : Nat) (cl : Nat) (es : Nat) (n : Nat) (cq : Nat) (z1 : Int32) (z2 : Int32) (sf : Nat → Int32) (af : Nat → Int32) (of : Nat → Int32) (stf : Nat → Int32) (hn : 1 ≤ n ∧ n ≤ 60) (hc : cq ≤ 99) (hf : stf 3 = 0) : Met l yX2_solve (wW yX2_solve cX2_solve 8 (none : Option FieldType)) ({ frames := 3, cells := 0, slots := 0, locals := 65 } : Room) (va_Pc [.ref h1, .int (nI n), .int (nI cq), .ref es] (fun U => U.heap.size = sz ∧ va_P (dC, dI) classes [(h1, .inr (2, [.ref cs, .ref ca, .ref cf, .ref cl, .int z1, .int z2])), (cs, .inl (aC 0, 60, .inl sf)), (ca, .inl (aC 0, 60, .inl af)), (cf, .inl (aC 0, 60, .inl of)), (cl, .inr (0, [])), (es, .inl (aC 0, 5, .inl stf))] U.heap ∧ va_K (dC, dI) classes (TY aC) U ∧ va_D (fun _ => True) [(h1, .inr (2, [.ref cs, .ref ca, .ref cf, .ref cl, .int z1, .int z2])), (cs, .inl (aC 0, 60, .inl sf)), (ca, .inl (aC 0, 60, .inl af)), (cf, .inl (aC 0, 60, .inl of)), (cl, .inr (0, [])), (es, .inl (aC 0, 5, .inl stf))] ∧ NX U)) (va_Qv (fun (u : (Nat → Int32) × (Nat → Int32) × (Nat → Int32)) => match u with | (sg, ag, og) => ∀ j, j < n → sg j = iI (FS (stf 1) (stf 2) cq n n j)) (fun (u : (Nat → Int32) × (Nat → Int32) × (Nat → Int32)) (t : State) => match u with | (sg, ag, og) => va_P (dC, dI) classes [(h1, .inr (2, [.ref cs, .ref ca, .ref cf, .ref cl, .int (nI n), .int (nI cq)])), (cs, .inl (aC 0, 60, .inl sg)), (ca, .inl (aC 0, 60, .inl ag)), (cf, .inl (aC 0, 60, .inl og)), (cl, .inr (0, [])), (es, .inl (aC 0, 5, .inl stf))] t.heap ∧ va_K (dC, dI) classes (TY aC) t ∧ va_D (va_A [(h1, .inr (2, [.ref cs, .ref ca, .ref cf, .ref cl, .int z1, .int z2])), (cs, .inl (aC 0, 60, .inl sf)), (ca, .inl (aC 0, 60, .inl af)), (cf, .inl (aC 0, 60, .inl of)), (cl, .inr (0, [])), (es, .inl (aC 0, 5, .inl stf))] sz) [(h1, .inr (2, [.ref cs, .ref ca, .ref cf, .ref cl, .int (nI n), .int (nI cq)])), (cs, .inl (aC 0, 60, .inl sg)), (ca, .inl (aC 0, 60, .inl ag)), (cf, .inl (aC 0, 60, .inl og)), (cl, .inr (0, [])), (es, .inl (aC 0, 5, .inl stf))]) (va_A [(h1, .inr (2, [.ref cs, .ref ca, .ref cf, .ref cl, .int z1, .int z2])), (cs, .inl (aC 0, 60, .inl sf)), (ca, .inl (aC 0, 60, .inl af)), (cf, .inl (aC 0, 60, .inl of)), (cl, .inr (0, [])), (es, .inl (aC 0, 5, .inl stf))] sz)) 0 0 (va_A [(h1, .inr (2, [.ref cs, .ref ca, .ref cf, .ref cl, .int z1, .int z2])), (cs, .inl (aC 0, 60, .inl sf)), (ca, .inl (aC 0, 60, .inl af)), (cf, .inl (aC 0, 60, .inl of)), (cl, .inr (0, [])), (es, .inl (aC 0, 5, .inl stf))] sz) := by
  refine Met.ofW (cc := cX2_solve) (maxL := 8) (ret := (none : Option FieldType)) (by decide) rfl ?_
  intro p e s m args below meth c s₁ B hml hv
  obtain ⟨rfl, hsz, hP, hK, hD0, hN⟩ := hv
  have hx := B.exec
  have hb := B.bytes
  have hr := B.returns
  have hts0 := atoms_spec (ws := (wW yX2_solve cX2_solve 8 (none : Option FieldType))) B.pre
  have hts : ∀ w9 ∈ lw_G, w9.before ([.ref h1, .int (nI n), .int (nI cq), .ref es] : List Value).toArray s = true := fun w9 h9 => hts0 w9 (List.mem_cons_of_mem _ h9)
  have hown : s.vm.findClass RX2 = some m.cls := findClass_of_methodNamed B.named
  have hlocks := B.notSynchronized
  subst hsz
  have hD := hD0.self (sz := s.heap.size)
  generalize hAe : va_A [(h1, .inr (2, [.ref cs, .ref ca, .ref cf, .ref cl, .int z1, .int z2])), (cs, .inl (aC 0, 60, .inl sf)), (ca, .inl (aC 0, 60, .inl af)), (cf, .inl (aC 0, 60, .inl of)), (cl, .inr (0, [])), (es, .inl (aC 0, 5, .inl stf))] s.heap.size = A at hD ⊢
  have hA : ∀ q : Nat, s.heap.size ≤ q → A q := fun q h => by rw [← hAe]; exact Or.inr h
  obtain ⟨H, hHe⟩ : ∃ H : Heap, H = s.heap := ⟨_, rfl⟩
  have hS : va_S A s.heap H [] := by rw [hHe]; exact va_S.rf
  have hP : va_P (dC, dI) classes [(h1, .inr (2, [.ref cs, .ref ca, .ref cf, .ref cl, .int z1, .int z2])), (cs, .inl (aC 0, 60, .inl sf)), (ca, .inl (aC 0, 60, .inl af)), (cf, .inl (aC 0, 60, .inl of)), (cl, .inr (0, [])), (es, .inl (aC 0, 5, .inl stf))] H := by rw [hHe]; exact hP
  have hl := lv_entry ([.ref h1, .int (nI n), .int (nI cq), .ref es]) (n := 8) (Nat.le_of_ble_eq_true rfl)
  rw [lg_entry_eq]
  generalize (lg_sl ([.ref h1, .int (nI n), .int (nI cq), .ref es]) ++ List.replicate (8 - (lg_sl ([.ref h1, .int (nI n), .int (nI cq), .ref es])).length) Slot.unset).toArray = ls at hl ⊢
  have hl : lv_has ls 8 [(0, .ref h1), (1, .int (nI n)), (2, .int (nI cq)), (3, .ref es)] := hl
  rw [← hHe]
  refine lv_aload_n hx hb dX2_solve_0 rfl (lv_at hl 0 rfl) ?_
  refine lv_iload_n hx hb dX2_solve_1 rfl (lv_at hl 1 rfl) ?_
  refine lv_bipush (v := 60) hx hb dX2_solve_2 (by decide) ?_
  refine va_mmin hx hb (by rw [hml]; exact hl.1.symm) hown (hts _ (gw kw_565 rfl)) (hts _ (gw kw_566 rfl)) (hts _ (gw kw_14 rfl)) (hts _ (gw kw_567 rfl)) (Nat.le_of_ble_eq_true rfl) (Nat.le_of_ble_eq_true rfl) (Nat.zero_le _) (Nat.zero_le _) dX2_solve_4 ?_
  refine lv_topi (fun x_1 e_1 => ?_)
  have h9 : x_1 = nI n := by rw [e_1, if_neg (fun q => by have := (nI_ltI (a := 60) (b := n) (by omega) (by omega)).mp q; omega)]
  subst h9
  refine va_put (D := (dC, dI)) (ci := 2) (v := .int (nI n)) (ty := .int) (C := RX2) (T := TX2) (N := 6) hx hb hts inX2 tyX2 tyX2_ok nmX2 hown hK hP hD hS 0 rfl rfl 4 (by decide) (hts _ (gw kw_211 rfl)) (fun _ h9 => h9) rfl (by decide +kernel) rfl rfl (Nat.le_of_ble_eq_true rfl) dX2_solve_7 (fun H locs hP hD hS => ?_)
  have hP : va_P (dC, dI) classes [(h1, .inr (2, [.ref cs, .ref ca, .ref cf, .ref cl, .int (nI n), .int z2])), (cs, .inl (aC 0, 60, .inl sf)), (ca, .inl (aC 0, 60, .inl af)), (cf, .inl (aC 0, 60, .inl of)), (cl, .inr (0, [])), (es, .inl (aC 0, 5, .inl stf))] H := hP
  have hD : va_D A [(h1, .inr (2, [.ref cs, .ref ca, .ref cf, .ref cl, .int (nI n), .int z2])), (cs, .inl (aC 0, 60, .inl sf)), (ca, .inl (aC 0, 60, .inl af)), (cf, .inl (aC 0, 60, .inl of)), (cl, .inr (0, [])), (es, .inl (aC 0, 5, .inl stf))] := hD
  refine lv_aload_n hx hb dX2_solve_10 rfl (lv_at hl 0 rfl) ?_
  refine lv_iload_n hx hb dX2_solve_11 rfl (lv_at hl 2 rfl) ?_
  refine va_put (D := (dC, dI)) (ci := 2) (v := .int (nI cq)) (ty := .int) (C := RX2) (T := TX2) (N := 6) hx hb hts inX2 tyX2 tyX2_ok nmX2 hown hK hP hD hS 0 rfl rfl 5 (by decide) (hts _ (gw kw_212 rfl)) (fun _ h9 => h9) rfl (by decide +kernel) rfl rfl (Nat.le_of_ble_eq_true rfl) dX2_solve_12 (fun H locs hP hD hS => ?_)
  have hP : va_P (dC, dI) classes [(h1, .inr (2, [.ref cs, .ref ca, .ref cf, .ref cl, .int (nI n), .int (nI cq)])), (cs, .inl (aC 0, 60, .inl sf)), (ca, .inl (aC 0, 60, .inl af)), (cf, .inl (aC 0, 60, .inl of)), (cl, .inr (0, [])), (es, .inl (aC 0, 5, .inl stf))] H := hP
  have hD : va_D A [(h1, .inr (2, [.ref cs, .ref ca, .ref cf, .ref cl, .int (nI n), .int (nI cq)])), (cs, .inl (aC 0, 60, .inl sf)), (ca, .inl (aC 0, 60, .inl af)), (cf, .inl (aC 0, 60, .inl of)), (cl, .inr (0, [])), (es, .inl (aC 0, 5, .inl stf))] := hD
  refine lv_aload_n hx hb dX2_solve_15 rfl (lv_at hl 0 rfl) ?_
  refine va_get (D := (dC, dI)) (ci := 2) (v := .int (nI n)) (C := RX2) (T := TX2) (N := 6) hx hb hts inX2 hown hK hP 0 rfl rfl 4 (by decide) (hts _ (gw kw_211 rfl)) (fun _ h9 => h9) rfl dX2_solve_16 ?_
  refine lv_iconst (v := 1) hx hb dX2_solve_19 (by decide) ?_
  refine lv_isub hx hb dX2_solve_20 ?_
  refine lv_topi (fun x_2 e_2 => ?_)
  have h9 : x_2 = nI (n - 1) := by rw [e_2]; exact pk_sub (a := n) (b := 1) (by omega)
  subst h9
  refine lv_istore (lv' := [(4, .int (nI (n - 1))), (0, .ref h1), (1, .int (nI n)), (2, .int (nI cq)), (3, .ref es)]) hx hb dX2_solve_21 hl (by decide) rfl (fun ls hl => ?_)
  have lp_23 : ∀ (fu : Nat) (k : Nat) (x4 : Int32) (sc : Nat → Int32) (ac : Nat → Int32) (oc : Nat → Int32) (hfu : k < fu) (hk : k ≤ n) (hx4 : x4 = iI ((k : Int) - 1)) (hsc : ∀ j, k ≤ j → j < n → sc j = iI (FS (stf 1) (stf 2) cq n (n - k) j)) (H : Heap) (locs : List Loc) (ls : Array Slot), va_P (dC, dI) classes [(h1, .inr (2, [.ref cs, .ref ca, .ref cf, .ref cl, .int (nI n), .int (nI cq)])), (cs, .inl (aC 0, 60, .inl sc)), (ca, .inl (aC 0, 60, .inl ac)), (cf, .inl (aC 0, 60, .inl oc)), (cl, .inr (0, [])), (es, .inl (aC 0, 5, .inl stf))] H → va_D A [(h1, .inr (2, [.ref cs, .ref ca, .ref cf, .ref cl, .int (nI n), .int (nI cq)])), (cs, .inl (aC 0, 60, .inl sc)), (ca, .inl (aC 0, 60, .inl ac)), (cf, .inl (aC 0, 60, .inl oc)), (cl, .inr (0, [])), (es, .inl (aC 0, 5, .inl stf))] → va_S A s.heap H locs → lv_has ls 8 [(0, .ref h1), (1, .int (nI n)), (2, .int (nI cq)), (3, .ref es), (4, .int x4)] → W p l e (headSpec (wW yX2_solve cX2_solve 8 (none : Option FieldType)) ({ frames := 3, cells := 0, slots := 0, locals := 65 } : Room)).room s m ([.ref h1, .int (nI n), .int (nI cq), .ref es] : List Value).toArray below meth c H locs 0 0 (MQ below (va_Qv (fun (u : (Nat → Int32) × (Nat → Int32) × (Nat → Int32)) => match u with | (sg, ag, og) => ∀ j, j < n → sg j = iI (FS (stf 1) (stf 2) cq n n j)) (fun (u : (Nat → Int32) × (Nat → Int32) × (Nat → Int32)) (t : State) => match u with | (sg, ag, og) => va_P (dC, dI) classes [(h1, .inr (2, [.ref cs, .ref ca, .ref cf, .ref cl, .int (nI n), .int (nI cq)])), (cs, .inl (aC 0, 60, .inl sg)), (ca, .inl (aC 0, 60, .inl ag)), (cf, .inl (aC 0, 60, .inl og)), (cl, .inr (0, [])), (es, .inl (aC 0, 5, .inl stf))] t.heap ∧ va_K (dC, dI) classes (TY aC) t ∧ va_D A [(h1, .inr (2, [.ref cs, .ref ca, .ref cf, .ref cl, .int (nI n), .int (nI cq)])), (cs, .inl (aC 0, 60, .inl sg)), (ca, .inl (aC 0, 60, .inl ag)), (cf, .inl (aC 0, 60, .inl og)), (cl, .inr (0, [])), (es, .inl (aC 0, 5, .inl stf))]) A) ([.ref h1, .int (nI n), .int (nI cq), .ref es] : List Value).toArray s 0 0 A) (F0 m 23 ls []) := by
    intro fu
    induction fu with
    | zero => intro k x4 sc ac oc hfu; exact absurd hfu (Nat.not_lt_zero _)
    | succ fu ih_23 =>
      intro k x4 sc ac oc hfu hk hx4 hsc H locs ls hP hD hS hl
      refine lv_iload hx hb dX2_solve_23 (lv_at hl 4 rfl) ?_
      refine lv_if_lt (tgt := 126) hx hb dX2_solve_25 (by decide) (fun c_3 => ?_) (fun c_3 => ?_)
      · have hk0 : k = 0 := by
          rcases Nat.eq_zero_or_pos k with q | q
          · exact q
          · exfalso
            rw [hx4, ← iI_0, iI_lt (by unfold sm; omega) sm0] at c_3
            omega
        have hP9 := hP.sub (ws' := [(h1, .inr (2, [.ref cs, .ref ca, .ref cf, .ref cl, .int (nI n), .int (nI cq)])), (cs, .inl (aC 0, 60, .inl sc)), (ca, .inl (aC 0, 60, .inl ac)), (cf, .inl (aC 0, 60, .inl oc)), (cl, .inr (0, [])), (es, .inl (aC 0, 5, .inl stf))]) [0, 1, 2, 3, 4, 5] rfl
        have hD9 := hD.sub (ws' := [(h1, .inr (2, [.ref cs, .ref ca, .ref cf, .ref cl, .int (nI n), .int (nI cq)])), (cs, .inl (aC 0, 60, .inl sc)), (ca, .inl (aC 0, 60, .inl ac)), (cf, .inl (aC 0, 60, .inl oc)), (cl, .inr (0, [])), (es, .inl (aC 0, 5, .inl stf))]) [0, 1, 2, 3, 4, 5] (by decide) rfl
        refine W.widen (k := 0) (n := 0) (by omega) (by omega) ?_
        exact W.vret hx hb hr (fun t ht hW => ⟨⟨(sc, ac, oc), rfl, fun j hj => by have := hsc j (by omega) hj; rw [hk0, Nat.sub_zero] at this; exact this, by rw [ht]; exact hP9, va_K.moved hW.alike hK, hD9⟩, hS.F ht⟩) hS.2.2 dX2_solve_126
      · have hk1 : 1 ≤ k := by
          rcases Nat.eq_zero_or_pos k with q | q
          · subst q; exact absurd (by rw [hx4]; decide) c_3
          · exact q
        obtain ⟨i, hki⟩ : ∃ i, k = i + 1 := ⟨k - 1, by omega⟩
        subst hki
        have h9 : x4 = nI i := by rw [hx4, nI_iI]; congr 1; omega
        subst h9
        refine lv_aload_n hx hb dX2_solve_28 rfl (lv_at hl 0 rfl) ?_
        refine lv_iload hx hb dX2_solve_29 (lv_at hl 4 rfl) ?_
        refine lv_aload_n hx hb dX2_solve_31 rfl (lv_at hl 3 rfl) ?_
        refine lv_iconst (v := 2) hx hb dX2_solve_32 (by decide) ?_
        have h_4 : vp_in 2 5 := by unfold vp_in; decide
        refine va_iald hx hb hK hP 5 0 rfl rfl h_4 dX2_solve_33 ?_
        refine lv_topi (fun x_5 e_5 => ?_)
        have h9 : x_5 = (stf 2) := by rw [e_5]; rfl
        subst h9
        have hPc := hP.sub (ws' := [(h1, .inr (2, [.ref cs, .ref ca, .ref cf, .ref cl, .int (nI n), .int (nI cq)])), (cs, .inl (aC 0, 60, .inl sc)), (ca, .inl (aC 0, 60, .inl ac)), (cl, .inr (0, []))]) [0, 1, 2, 4] rfl
        have hDc := hD.sub (ws' := [(h1, .inr (2, [.ref cs, .ref ca, .ref cf, .ref cl, .int (nI n), .int (nI cq)])), (cs, .inl (aC 0, 60, .inl sc)), (ca, .inl (aC 0, 60, .inl ac)), (cl, .inr (0, []))]) [0, 1, 2, 4] (by decide) rfl
        have hFc := va_free (wc := [(h1, .inr (2, [.ref cs, .ref ca, .ref cf, .ref cl, .int (nI n), .int (nI cq)])), (cs, .inl (aC 0, 60, .inl sc)), (ca, .inl (aC 0, 60, .inl ac)), (cl, .inr (0, []))]) hD hS hA [0, 1, 2, 4] rfl
        refine va_calli (va_runV (As := [.int (nI i), .int (stf 2)]) (rest := []) ⟨hx, hb, hml, hown, hts⟩ (c_X2_askYounger l dC dI aC H.size h1 cs ca cf cl n i (nI cq) (stf 2) (FS (stf 1) (stf 2) cq n (n - (i + 1))) sc ac (by omega) (fun j q1 q2 => ⟨hsc j (by omega) q2, FS_rng hc _ (by omega) j (by omega) q2⟩)) ⟨(callB_of 2 hts (gG kw_571) rfl rfl rfl (hts _ (gw kw_12 rfl)) (hts _ (gw kw_568 rfl)) (by decide +kernel) ⟨Nat.le_of_ble_eq_true rfl, Nat.le_of_ble_eq_true rfl⟩), (hts _ (gw kw_570 rfl)), (hts _ (gw ks_22 rfl))⟩ ⟨fun a U g mk q => by obtain ⟨q0, q1, qP, qK, qD, qN⟩ := q; exact ⟨q0, q1, qP, va_K.moved (u := U) (U := U.calling g mk a) (Vm.Alike.refl U.vm) qK, qD, NX.same (u := U) (U := U.calling g mk a) rfl qN⟩, va_recv hK hPc (ci := 2) (q0 := 0) rfl rfl, fun U hU hW => ⟨rfl, by rw [hU], by rw [hU]; exact hPc, va_K.moved hW.alike hK, hDc.weaken (fun _ _ _ _ => trivial), NX.warm hW hN⟩⟩ rfl rfl hl.1 rfl (lv_room (Nat.le_of_ble_eq_true rfl)) dX2_solve_34 ⟨Nat.le_of_ble_eq_true rfl, Nat.le_of_ble_eq_true rfl⟩) hS (fun q _ h => hFc q h) hFc (fun x_6 u t H1 locs ht hvm hw_6 hB hz1 hk1 hS => ?_)
        obtain ⟨u_7, rfl⟩ : ∃ z, z = u := ⟨_, rfl⟩
        obtain ⟨hP1, hK1, hD1⟩ := hB
        rw [ht] at hP1
        clear hK1
        try dsimp only at hw_6
        obtain ⟨hP, hD⟩ := va_join (wr := [(cf, .inl (aC 0, 60, .inl oc)), (es, .inl (aC 0, 5, .inl stf))]) (w1 := [(h1, .inr (2, [.ref cs, .ref ca, .ref cf, .ref cl, .int (nI n), .int (nI cq)])), (cs, .inl (aC 0, 60, .inl sc)), (ca, .inl (aC 0, 60, .inl u_7)), (cl, .inr (0, []))]) hP hD [0, 1, 2, 4] [3, 5] rfl rfl (by decide) (by decide) hk1 hFc hP1 hD1
        generalize H1 = H at hP hS ⊢
        have hP : va_P (dC, dI) classes [(cf, .inl (aC 0, 60, .inl oc)), (es, .inl (aC 0, 5, .inl stf)), (h1, .inr (2, [.ref cs, .ref ca, .ref cf, .ref cl, .int (nI n), .int (nI cq)])), (cs, .inl (aC 0, 60, .inl sc)), (ca, .inl (aC 0, 60, .inl u_7)), (cl, .inr (0, []))] H := hP
        have hD : va_D A [(cf, .inl (aC 0, 60, .inl oc)), (es, .inl (aC 0, 5, .inl stf)), (h1, .inr (2, [.ref cs, .ref ca, .ref cf, .ref cl, .int (nI n), .int (nI cq)])), (cs, .inl (aC 0, 60, .inl sc)), (ca, .inl (aC 0, 60, .inl u_7)), (cl, .inr (0, []))] := hD
        clear hPc hDc hFc hz1 hk1 hP1 hD1 ht hvm
        obtain ⟨hv0, hag⟩ := hw_6
        have hcvle := cv_le (Q := (fun j => ask (stf 2) (FS (stf 1) (stf 2) cq n (n - (i + 1)) j))) (a := i + 1) (y := n - 1 - i) (v := 0)
        have hQQ : ∀ j, i < j → j < n → u_7 j = nI ((fun j => ask (stf 2) (FS (stf 1) (stf 2) cq n (n - (i + 1)) j)) j) ∧ (fun j => ask (stf 2) (FS (stf 1) (stf 2) cq n (n - (i + 1)) j)) j ≤ 100 := fun j q1 q2 => ⟨hag j q1 q2, ask_le (FS_rng hc _ (by omega) j (by omega) q2).2⟩
        have h9 : x_6 = nI (cv (fun j => ask (stf 2) (FS (stf 1) (stf 2) cq n (n - (i + 1)) j)) (i + 1) (n - 1 - i) 0) := hv0
        subst h9
        refine lv_istore (lv' := [(5, .int (nI (cv (fun j => ask (stf 2) (FS (stf 1) (stf 2) cq n (n - (i + 1)) j)) (i + 1) (n - 1 - i) 0))), (0, .ref h1), (1, .int (nI n)), (2, .int (nI cq)), (3, .ref es), (4, .int (nI i))]) hx hb dX2_solve_37 hl (by decide) rfl (fun ls hl => ?_)
        refine lv_iconst (v := 1) hx hb dX2_solve_39 (by decide) ?_
        refine lv_iload hx hb dX2_solve_40 (lv_at hl 0 rfl) ?_
        refine lv_iadd hx hb dX2_solve_42 ?_
        refine lv_topi (fun x_8 e_8 => ?_)
        have h9 : x_8 = nI (1 + (cv (fun j => ask (stf 2) (FS (stf 1) (stf 2) cq n (n - (i + 1)) j)) (i + 1) (n - 1 - i) 0)) := by rw [e_8]; exact nI_add 1 _
        subst h9
        refine lv_aload_n hx hb dX2_solve_43 rfl (lv_at hl 1 rfl) ?_
        refine va_get (D := (dC, dI)) (ci := 2) (v := .int (nI n)) (C := RX2) (T := TX2) (N := 6) hx hb hts inX2 hown hK hP 2 rfl rfl 4 (by decide) (hts _ (gw kw_211 rfl)) (fun _ h9 => h9) rfl dX2_solve_44 ?_
        refine lv_iload hx hb dX2_solve_47 (lv_at hl 5 rfl) ?_
        refine lv_isub hx hb dX2_solve_49 ?_
        refine lv_topi (fun x_9 e_9 => ?_)
        have h9 : x_9 = nI (n - i) := by rw [e_9]; exact pk_sub (by omega)
        subst h9
        refine lv_aload_n hx hb dX2_solve_50 rfl (lv_at hl 4 rfl) ?_
        refine lv_iconst (v := 1) hx hb dX2_solve_51 (by decide) ?_
        have h_10 : vp_in 1 5 := by unfold vp_in; decide
        refine va_iald hx hb hK hP 1 0 rfl rfl h_10 dX2_solve_52 ?_
        refine lv_topi (fun x_11 e_11 => ?_)
        have h9 : x_11 = (stf 1) := by rw [e_11]; rfl
        subst h9
        have hPc := hP.sub (ws' := []) [] rfl
        have hDc := hD.sub (ws' := []) [] (by decide) rfl
        have hFc := va_free (wc := []) hD hS hA [] rfl
        refine va_calli (va_runS (As := [.int (nI (1 + (cv (fun j => ask (stf 2) (FS (stf 1) (stf 2) cq n (n - (i + 1)) j)) (i + 1) (n - 1 - i) 0))), .int (nI (n - i)), .int (stf 1)]) (rest := []) ⟨hx, hb, hml, hown, hts⟩ (c_X2_votesLacking l dC dI aC H.size (1 + (cv (fun j => ask (stf 2) (FS (stf 1) (stf 2) cq n (n - (i + 1)) j)) (i + 1) (n - 1 - i) 0)) (n - i) (stf 1) (by omega) (by omega)) ⟨(callB_of 3 hts (gG kw_575) rfl rfl rfl (hts _ (gw kw_12 rfl)) (hts _ (gw kw_573 rfl)) (by decide +kernel) ⟨Nat.le_of_ble_eq_true rfl, Nat.le_of_ble_eq_true rfl⟩), (hts _ (gw kw_574 rfl))⟩ ⟨fun a U g mk q => by obtain ⟨q0, q1, qP, qK, qD, qN⟩ := q; exact ⟨q0, q1, qP, va_K.moved (u := U) (U := U.calling g mk a) (Vm.Alike.refl U.vm) qK, qD, NX.same (u := U) (U := U.calling g mk a) rfl qN⟩, fun U hU hW => ⟨rfl, by rw [hU], by rw [hU]; exact hPc, va_K.moved hW.alike hK, hDc.weaken (fun _ _ _ _ => trivial), NX.warm hW hN⟩⟩ rfl rfl hl.1 rfl (lv_room (Nat.le_of_ble_eq_true rfl)) dX2_solve_53 ⟨Nat.le_of_ble_eq_true rfl, Nat.le_of_ble_eq_true rfl⟩) hS (fun q _ h => hFc q h) hFc (fun x_12 u t H1 locs ht hvm hw_12 hB hz1 hk1 hS => ?_)
        obtain ⟨hP1, hK1, hD1⟩ := hB
        rw [ht] at hP1
        clear hK1
        try dsimp only at hw_12
        obtain ⟨hP, hD⟩ := va_join (wr := [(cf, .inl (aC 0, 60, .inl oc)), (es, .inl (aC 0, 5, .inl stf)), (h1, .inr (2, [.ref cs, .ref ca, .ref cf, .ref cl, .int (nI n), .int (nI cq)])), (cs, .inl (aC 0, 60, .inl sc)), (ca, .inl (aC 0, 60, .inl u_7)), (cl, .inr (0, []))]) (w1 := []) hP hD [] [0, 1, 2, 3, 4, 5] rfl rfl (by decide) (by decide) hk1 hFc hP1 hD1
        generalize H1 = H at hP hS ⊢
        have hP : va_P (dC, dI) classes [(cf, .inl (aC 0, 60, .inl oc)), (es, .inl (aC 0, 5, .inl stf)), (h1, .inr (2, [.ref cs, .ref ca, .ref cf, .ref cl, .int (nI n), .int (nI cq)])), (cs, .inl (aC 0, 60, .inl sc)), (ca, .inl (aC 0, 60, .inl u_7)), (cl, .inr (0, []))] H := hP
        have hD : va_D A [(cf, .inl (aC 0, 60, .inl oc)), (es, .inl (aC 0, 5, .inl stf)), (h1, .inr (2, [.ref cs, .ref ca, .ref cf, .ref cl, .int (nI n), .int (nI cq)])), (cs, .inl (aC 0, 60, .inl sc)), (ca, .inl (aC 0, 60, .inl u_7)), (cl, .inr (0, []))] := hD
        clear hPc hDc hFc hz1 hk1 hP1 hD1 ht hvm
        have h9 : x_12 = nI (mm (stf 1) (fun j => ask (stf 2) (FS (stf 1) (stf 2) cq n (n - (i + 1)) j)) n i) := hw_12
        subst h9
        refine lv_istore (lv' := [(6, .int (nI (mm (stf 1) (fun j => ask (stf 2) (FS (stf 1) (stf 2) cq n (n - (i + 1)) j)) n i))), (5, .int (nI (cv (fun j => ask (stf 2) (FS (stf 1) (stf 2) cq n (n - (i + 1)) j)) (i + 1) (n - 1 - i) 0))), (0, .ref h1), (1, .int (nI n)), (2, .int (nI cq)), (3, .ref es), (4, .int (nI i))]) hx hb dX2_solve_56 hl (by decide) rfl (fun ls hl => ?_)
        refine lv_aload_n hx hb dX2_solve_58 rfl (lv_at hl 2 rfl) ?_
        refine lv_iload hx hb dX2_solve_59 (lv_at hl 6 rfl) ?_
        refine lv_iload hx hb dX2_solve_61 (lv_at hl 0 rfl) ?_
        refine lv_aload_n hx hb dX2_solve_63 rfl (lv_at hl 5 rfl) ?_
        refine lv_iconst (v := 3) hx hb dX2_solve_64 (by decide) ?_
        have h_13 : vp_in 3 5 := by unfold vp_in; decide
        refine va_iald hx hb hK hP 1 0 rfl rfl h_13 dX2_solve_65 ?_
        refine lv_topi (fun x_14 e_14 => ?_)
        have h9 : x_14 = (stf 3) := by rw [e_14]; rfl
        subst h9
        have hPc := hP.sub (ws' := [(h1, .inr (2, [.ref cs, .ref ca, .ref cf, .ref cl, .int (nI n), .int (nI cq)])), (ca, .inl (aC 0, 60, .inl u_7)), (cf, .inl (aC 0, 60, .inl oc))]) [2, 4, 0] rfl
        have hDc := hD.sub (ws' := [(h1, .inr (2, [.ref cs, .ref ca, .ref cf, .ref cl, .int (nI n), .int (nI cq)])), (ca, .inl (aC 0, 60, .inl u_7)), (cf, .inl (aC 0, 60, .inl oc))]) [2, 4, 0] (by decide) rfl
        have hFc := va_free (wc := [(h1, .inr (2, [.ref cs, .ref ca, .ref cf, .ref cl, .int (nI n), .int (nI cq)])), (ca, .inl (aC 0, 60, .inl u_7)), (cf, .inl (aC 0, 60, .inl oc))]) hD hS hA [2, 4, 0] rfl
        refine va_calli (va_runV (As := [.int (nI i), .int (nI (mm (stf 1) (fun j => ask (stf 2) (FS (stf 1) (stf 2) cq n (n - (i + 1)) j)) n i)), .int (stf 3)]) (rest := []) ⟨hx, hb, hml, hown, hts⟩ (c_X2_buyYounger l dC dI aC H.size h1 cs ca cf cl n i (fun j => ask (stf 2) (FS (stf 1) (stf 2) cq n (n - (i + 1)) j)) u_7 cq (mm (stf 1) (fun j => ask (stf 2) (FS (stf 1) (stf 2) cq n (n - (i + 1)) j)) n i) (stf 3) oc (by omega) (hQQ) (mm_le (by omega) (fun j q1 q2 => (hQQ j q1 q2).2)) (hc) (hf)) ⟨(callB_of 3 hts (gG kw_580) rfl rfl rfl (hts _ (gw kw_12 rfl)) (hts _ (gw kw_577 rfl)) (by decide +kernel) ⟨Nat.le_of_ble_eq_true rfl, Nat.le_of_ble_eq_true rfl⟩), (hts _ (gw kw_579 rfl)), (hts _ (gw ks_23 rfl))⟩ ⟨fun a U g mk q => by obtain ⟨q0, q1, qP, qK, qD, qN⟩ := q; exact ⟨q0, q1, qP, va_K.moved (u := U) (U := U.calling g mk a) (Vm.Alike.refl U.vm) qK, qD, NX.same (u := U) (U := U.calling g mk a) rfl qN⟩, va_recv hK hPc (ci := 2) (q0 := 0) rfl rfl, fun U hU hW => ⟨rfl, by rw [hU], by rw [hU]; exact hPc, va_K.moved hW.alike hK, hDc.weaken (fun _ _ _ _ => trivial), NX.warm hW hN⟩⟩ rfl rfl hl.1 rfl (lv_room (Nat.le_of_ble_eq_true rfl)) dX2_solve_66 ⟨Nat.le_of_ble_eq_true rfl, Nat.le_of_ble_eq_true rfl⟩) hS (fun q _ h => hFc q h) hFc (fun x_15 u t H1 locs ht hvm hw_15 hB hz1 hk1 hS => ?_)
        obtain ⟨u_16, u_17⟩ := u
        obtain ⟨hP1, hK1, hD1⟩ := hB
        rw [ht] at hP1
        clear hK1
        try dsimp only at hw_15
        obtain ⟨hP, hD⟩ := va_join (wr := [(es, .inl (aC 0, 5, .inl stf)), (cs, .inl (aC 0, 60, .inl sc)), (cl, .inr (0, []))]) (w1 := [(h1, .inr (2, [.ref cs, .ref ca, .ref cf, .ref cl, .int (nI n), .int (nI cq)])), (ca, .inl (aC 0, 60, .inl u_7)), (cf, .inl (aC 0, 60, .inl u_16))]) hP hD [2, 4, 0] [1, 3, 5] rfl rfl (by decide) (by decide) hk1 hFc hP1 hD1
        generalize H1 = H at hP hS ⊢
        have hP : va_P (dC, dI) classes [(es, .inl (aC 0, 5, .inl stf)), (cs, .inl (aC 0, 60, .inl sc)), (cl, .inr (0, [])), (h1, .inr (2, [.ref cs, .ref ca, .ref cf, .ref cl, .int (nI n), .int (nI cq)])), (ca, .inl (aC 0, 60, .inl u_7)), (cf, .inl (aC 0, 60, .inl u_16))] H := hP
        have hD : va_D A [(es, .inl (aC 0, 5, .inl stf)), (cs, .inl (aC 0, 60, .inl sc)), (cl, .inr (0, [])), (h1, .inr (2, [.ref cs, .ref ca, .ref cf, .ref cl, .int (nI n), .int (nI cq)])), (ca, .inl (aC 0, 60, .inl u_7)), (cf, .inl (aC 0, 60, .inl u_16))] := hD
        clear hPc hDc hFc hz1 hk1 hP1 hD1 ht hvm
        obtain ⟨hy0, hy1, hy2, hy3, hy4⟩ := hw_15
        have hvv := vv_eq (law := stf 1) (Q := (fun j => ask (stf 2) (FS (stf 1) (stf 2) cq n (n - (i + 1)) j))) hy1 hy2 hy3
        have hccl := cc1_le (by omega) hvv hy2 hy3 hc
        subst hvv
        have h9 : x_15 = nI (cc1 (stf 1) (fun j => ask (stf 2) (FS (stf 1) (stf 2) cq n (n - (i + 1)) j)) cq n i) := hy0
        subst h9
        refine lv_istore (lv' := [(7, .int (nI (cc1 (stf 1) (fun j => ask (stf 2) (FS (stf 1) (stf 2) cq n (n - (i + 1)) j)) cq n i))), (6, .int (nI (mm (stf 1) (fun j => ask (stf 2) (FS (stf 1) (stf 2) cq n (n - (i + 1)) j)) n i))), (5, .int (nI (cv (fun j => ask (stf 2) (FS (stf 1) (stf 2) cq n (n - (i + 1)) j)) (i + 1) (n - 1 - i) 0))), (0, .ref h1), (1, .int (nI n)), (2, .int (nI cq)), (3, .ref es), (4, .int (nI i))]) hx hb dX2_solve_69 hl (by decide) rfl (fun ls hl => ?_)
        refine lv_iload hx hb dX2_solve_71 (lv_at hl 0 rfl) ?_
        refine lv_aload_n hx hb dX2_solve_73 rfl (lv_at hl 3 rfl) ?_
        refine va_get (D := (dC, dI)) (ci := 2) (v := .int (nI cq)) (C := RX2) (T := TX2) (N := 6) hx hb hts inX2 hown hK hP 3 rfl rfl 5 (by decide) (hts _ (gw kw_212 rfl)) (fun _ h9 => h9) rfl dX2_solve_74 ?_
        refine lv_icmp_gt (tgt := 112) hx hb dX2_solve_77 (by decide) (fun c_18 => ?_) (fun c_18 => ?_)
        · refine lv_aload_n hx hb dX2_solve_112 rfl (lv_at hl 3 rfl) ?_
          refine va_get (D := (dC, dI)) (ci := 2) (v := .ref cs) (C := RX2) (T := TX2) (N := 6) hx hb hts inX2 hown hK hP 3 rfl rfl 0 (by decide) (hts _ (gw kw_206 rfl)) (fun _ h9 => h9) rfl dX2_solve_113 ?_
          refine lv_iload hx hb dX2_solve_116 (lv_at hl 7 rfl) ?_
          refine lv_iconst (v := -1) hx hb dX2_solve_118 (by decide) ?_
          have h_19 : vp_in (nI i) 60 := vp_in_nI (by omega) (by omega)
          refine va_iast hx hb hK hP hD hS 1 0 rfl rfl h_19 dX2_solve_119 (fun H locs hP hD hS => ?_)
          obtain ⟨f_20, e_f_20⟩ : ∃ y : Nat → Int32, y = upd sc (nI i : Int32).toNatClampNeg (-1) := ⟨_, rfl⟩
          have hP : va_P (dC, dI) classes [(es, .inl (aC 0, 5, .inl stf)), (cs, .inl (aC 0, 60, .inl f_20)), (cl, .inr (0, [])), (h1, .inr (2, [.ref cs, .ref ca, .ref cf, .ref cl, .int (nI n), .int (nI cq)])), (ca, .inl (aC 0, 60, .inl u_7)), (cf, .inl (aC 0, 60, .inl u_16))] H := by rw [e_f_20]; exact hP
          have hD : va_D A [(es, .inl (aC 0, 5, .inl stf)), (cs, .inl (aC 0, 60, .inl f_20)), (cl, .inr (0, [])), (h1, .inr (2, [.ref cs, .ref ca, .ref cf, .ref cl, .int (nI n), .int (nI cq)])), (ca, .inl (aC 0, 60, .inl u_7)), (cf, .inl (aC 0, 60, .inl u_16))] := by rw [e_f_20]; exact hD
          have hcc : ¬ (cc1 (stf 1) (fun j => ask (stf 2) (FS (stf 1) (stf 2) cq n (n - (i + 1)) j)) cq n i) ≤ cq := fun q => by have := (nI_ltI (by omega) (by omega)).mp c_18; omega
          have hb2 := st_no (f := f_20) (by omega) hcc (fun j q1 q2 => hsc j (by omega) q2) (by rw [e_f_20, nI_clamp (by omega)])
          obtain ⟨x_21, e_21⟩ : ∃ y : Int32, y = (nI i) + (-1) := ⟨_, rfl⟩
          refine lv_iinc (v := x_21) (lv' := [(4, .int x_21), (7, .int (nI (cc1 (stf 1) (fun j => ask (stf 2) (FS (stf 1) (stf 2) cq n (n - (i + 1)) j)) cq n i))), (6, .int (nI (mm (stf 1) (fun j => ask (stf 2) (FS (stf 1) (stf 2) cq n (n - (i + 1)) j)) n i))), (5, .int (nI (cv (fun j => ask (stf 2) (FS (stf 1) (stf 2) cq n (n - (i + 1)) j)) (i + 1) (n - 1 - i) 0))), (0, .ref h1), (1, .int (nI n)), (2, .int (nI cq)), (3, .ref es)]) hx hb dX2_solve_120 hl (k := 7) rfl (by rw [e_21]; rfl) (by decide) rfl (fun ls hl => ?_)
          refine lv_goto (tgt := 23) hx hb dX2_solve_123 (by decide) ?_
          exact ih_23 i x_21 f_20 u_7 u_16 (by omega) (by omega) (by rw [e_21, nI_iI, show (-1 : Int32) = iI (-1) from rfl, iI_add]; rfl) (hb2) _ _ _ (hP.sub [3, 1, 4, 5, 2, 0] rfl) (hD.sub [3, 1, 4, 5, 2, 0] (by decide) rfl) hS (lv_sub hl [4, 5, 6, 7, 0] rfl)
        · refine lv_aload_n hx hb dX2_solve_80 rfl (lv_at hl 3 rfl) ?_
          refine va_get (D := (dC, dI)) (ci := 2) (v := .ref cf) (C := RX2) (T := TX2) (N := 6) hx hb hts inX2 hown hK hP 3 rfl rfl 2 (by decide) (hts _ (gw kw_209 rfl)) (fun _ h9 => h9) rfl dX2_solve_81 ?_
          refine lv_iconst (v := 0) hx hb dX2_solve_84 (by decide) ?_
          refine lv_aload_n hx hb dX2_solve_85 rfl (lv_at hl 3 rfl) ?_
          refine va_get (D := (dC, dI)) (ci := 2) (v := .ref cs) (C := RX2) (T := TX2) (N := 6) hx hb hts inX2 hown hK hP 3 rfl rfl 0 (by decide) (hts _ (gw kw_206 rfl)) (fun _ h9 => h9) rfl dX2_solve_86 ?_
          refine lv_iconst (v := 0) hx hb dX2_solve_89 (by decide) ?_
          refine lv_bipush (v := 60) hx hb dX2_solve_90 (by decide) ?_
          refine va_copyi (ty := .int) hx hb (by rw [hml]; exact hl.1.symm) hown (hts _ (gw kw_590 rfl)) (hts _ (gw kw_486 rfl)) (hts _ (gw kw_485 rfl)) (hts _ (gw kw_16 rfl)) hK hP hD hS 5 1 0 0 rfl rfl rfl rfl rfl (by decide) (by decide) (by decide) (by decide) (by decide) (fun _ _ => rfl) (Nat.le_of_ble_eq_true rfl) (Nat.le_of_ble_eq_true rfl) dX2_solve_92 (fun H locs hP hD hS => ?_)
          obtain ⟨f_22, e_f_22⟩ : ∃ y : Nat → Int32, y = va_cpy u_16 sc (0 : Int32).toNatClampNeg (0 : Int32).toNatClampNeg (60 : Int32).toNatClampNeg := ⟨_, rfl⟩
          have hP : va_P (dC, dI) classes [(es, .inl (aC 0, 5, .inl stf)), (cs, .inl (aC 0, 60, .inl f_22)), (cl, .inr (0, [])), (h1, .inr (2, [.ref cs, .ref ca, .ref cf, .ref cl, .int (nI n), .int (nI cq)])), (ca, .inl (aC 0, 60, .inl u_7)), (cf, .inl (aC 0, 60, .inl u_16))] H := by rw [e_f_22]; exact hP
          have hD : va_D A [(es, .inl (aC 0, 5, .inl stf)), (cs, .inl (aC 0, 60, .inl f_22)), (cl, .inr (0, [])), (h1, .inr (2, [.ref cs, .ref ca, .ref cf, .ref cl, .int (nI n), .int (nI cq)])), (ca, .inl (aC 0, 60, .inl u_7)), (cf, .inl (aC 0, 60, .inl u_16))] := by rw [e_f_22]; exact hD
          refine lv_aload_n hx hb dX2_solve_95 rfl (lv_at hl 3 rfl) ?_
          refine va_get (D := (dC, dI)) (ci := 2) (v := .ref cs) (C := RX2) (T := TX2) (N := 6) hx hb hts inX2 hown hK hP 3 rfl rfl 0 (by decide) (hts _ (gw kw_206 rfl)) (fun _ h9 => h9) rfl dX2_solve_96 ?_
          refine lv_iload hx hb dX2_solve_99 (lv_at hl 7 rfl) ?_
          refine lv_aload_n hx hb dX2_solve_101 rfl (lv_at hl 3 rfl) ?_
          refine va_get (D := (dC, dI)) (ci := 2) (v := .int (nI cq)) (C := RX2) (T := TX2) (N := 6) hx hb hts inX2 hown hK hP 3 rfl rfl 5 (by decide) (hts _ (gw kw_212 rfl)) (fun _ h9 => h9) rfl dX2_solve_102 ?_
          refine lv_iload hx hb dX2_solve_105 (lv_at hl 0 rfl) ?_
          refine lv_isub hx hb dX2_solve_107 ?_
          refine lv_topi (fun x_23 e_23 => ?_)
          have h_24 : vp_in (nI i) 60 := vp_in_nI (by omega) (by omega)
          refine va_iast hx hb hK hP hD hS 1 0 rfl rfl h_24 dX2_solve_108 (fun H locs hP hD hS => ?_)
          obtain ⟨f_25, e_f_25⟩ : ∃ y : Nat → Int32, y = upd f_22 (nI i : Int32).toNatClampNeg x_23 := ⟨_, rfl⟩
          have hP : va_P (dC, dI) classes [(es, .inl (aC 0, 5, .inl stf)), (cs, .inl (aC 0, 60, .inl f_25)), (cl, .inr (0, [])), (h1, .inr (2, [.ref cs, .ref ca, .ref cf, .ref cl, .int (nI n), .int (nI cq)])), (ca, .inl (aC 0, 60, .inl u_7)), (cf, .inl (aC 0, 60, .inl u_16))] H := by rw [e_f_25]; exact hP
          have hD : va_D A [(es, .inl (aC 0, 5, .inl stf)), (cs, .inl (aC 0, 60, .inl f_25)), (cl, .inr (0, [])), (h1, .inr (2, [.ref cs, .ref ca, .ref cf, .ref cl, .int (nI n), .int (nI cq)])), (ca, .inl (aC 0, 60, .inl u_7)), (cf, .inl (aC 0, 60, .inl u_16))] := by rw [e_f_25]; exact hD
          refine lv_goto (tgt := 120) hx hb dX2_solve_109 (by decide) ?_
          have hcc : (cc1 (stf 1) (fun j => ask (stf 2) (FS (stf 1) (stf 2) cq n (n - (i + 1)) j)) cq n i) ≤ cq := by
            rcases Nat.lt_or_ge cq (cc1 (stf 1) (fun j => ask (stf 2) (FS (stf 1) (stf 2) cq n (n - (i + 1)) j)) cq n i) with q | q
            · exact absurd (nI_lt q (by omega)) c_18
            · exact q
          have hb2 := st_ok (f := f_25) (by omega) (by omega) hcc hy4 e_23 (by rw [e_f_25, e_f_22, nI_clamp (by omega)]; rfl)
          obtain ⟨x_26, e_26⟩ : ∃ y : Int32, y = (nI i) + (-1) := ⟨_, rfl⟩
          refine lv_iinc (v := x_26) (lv' := [(4, .int x_26), (7, .int (nI (cc1 (stf 1) (fun j => ask (stf 2) (FS (stf 1) (stf 2) cq n (n - (i + 1)) j)) cq n i))), (6, .int (nI (mm (stf 1) (fun j => ask (stf 2) (FS (stf 1) (stf 2) cq n (n - (i + 1)) j)) n i))), (5, .int (nI (cv (fun j => ask (stf 2) (FS (stf 1) (stf 2) cq n (n - (i + 1)) j)) (i + 1) (n - 1 - i) 0))), (0, .ref h1), (1, .int (nI n)), (2, .int (nI cq)), (3, .ref es)]) hx hb dX2_solve_120 hl (k := 7) rfl (by rw [e_26]; rfl) (by decide) rfl (fun ls hl => ?_)
          refine lv_goto (tgt := 23) hx hb dX2_solve_123 (by decide) ?_
          exact ih_23 i x_26 f_25 u_7 u_16 (by omega) (by omega) (by rw [e_26, nI_iI, show (-1 : Int32) = iI (-1) from rfl, iI_add]; rfl) (hb2) _ _ _ (hP.sub [3, 1, 4, 5, 2, 0] rfl) (hD.sub [3, 1, 4, 5, 2, 0] (by decide) rfl) hS (lv_sub hl [4, 5, 6, 7, 0] rfl)
  exact lp_23 (n + 1) n (nI (n - 1)) sf af of (Nat.lt_succ_self _) (Nat.le_refl n) (by rw [nI_iI]; congr 1; omega) (fun j q1 q2 => by omega) _ _ _ (hP.sub [0, 1, 2, 3, 4, 5] rfl) (hD.sub [0, 1, 2, 3, 4, 5] (by decide) rfl) hS (lv_sub hl [1, 2, 3, 4, 0] rfl)
