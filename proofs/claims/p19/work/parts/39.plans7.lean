theorem mu_in {fst : Int32} {n i u : Nat} (h : i + 1 + u < n) : i < mu fst n i u ∧ mu fst n i u < n := by
  unfold mu
  split <;> omega
/-- the men of a set of units -/
def mb (fst : Int32) (n i b y q : Nat) : Bool := (List.range y).any (fun u => b.testBit u && decide (mu fst n i u = q))
theorem mb_0 {fst : Int32} {n i b q : Nat} : mb fst n i b 0 q = false := rfl
theorem mb_s {fst : Int32} {n i b y q : Nat} : mb fst n i b (y + 1) q = (mb fst n i b y q || (b.testBit y && decide (mu fst n i y = q))) := by
  unfold mb
  rw [List.range_succ, List.any_append]
  simp
theorem mb_i {fst : Int32} {n i b y : Nat} (h : i + y < n) : mb fst n i b y i = false := by
  induction y with
  | zero => rfl
  | succ y ih =>
    rw [mb_s, ih (by omega), decide_eq_false (fun q => by have := (mu_in (fst := fst) (n := n) (i := i) (u := y) (by omega)).1; omega)]
    simp
def uwf (fst : Int32) (n i : Nat) (Pq W : Nat → Nat) (u : Nat) : Nat := if 0 < Pq (mu fst n i u) then W (mu fst n i u) else 0
def frf (fst : Int32) (n i : Nat) (Pq W : Nat → Nat) (u : Nat) : Nat := if 0 < Pq (mu fst n i u) then 0 else W (mu fst n i u)
theorem b_get {b u : Nat} (hb : b < 2 ^ 31) (hu : u < 31) : bt (nI b) u = b.testBit u := by
  unfold bt nI
  show (BitVec.ofNat 32 b).getLsbD u = _
  rw [BitVec.getLsbD_ofNat]
  simp
  omega
theorem m9_ne {b : Nat} (h : b < 2 ^ 31) : ¬ (-9 : Int32) = nI b := fun q => nI_pos h (by rw [← q]; decide)
theorem bc_none {ct : Nat → Nat} {N cq : Nat} {r : Int32} (hN : N ≤ 1000) (h : r = -9 ∨ ∃ b, b < N ∧ r = nI b ∧ cq < ct b) {b : Nat} (q1 : b < N) (q2 : r = nI b) (q3 : ct b ≤ cq) : False := by
  rcases h with h | ⟨b2, h1, h2, h3⟩
  · exact m9_ne (b := b) (by omega) (h.symm.trans q2)
  · have h5 := (nI_eq (by omega) (by omega)).mp (h2.symm.trans q2)
    rw [h5] at h3
    omega

set_option maxHeartbeats 1000000 in
set_option maxRecDepth 100000 in
/-- X9_buyCheapest -/
theorem c_X9_buyCheapest (l : Launch) (dC : Nat → ClassId) (dI : Nat → Nat → Nat) (aC : Nat → ClassId) (sz : Nat) (h1 : Nat) (po : Nat) (pp : Nat) (ps : Nat) (pa : Nat) (pe : Nat) (pb : Nat) (pv : Nat) (pk : Nat) (pu : Nat) (pw : Nat) (pq : Nat) (pt : Nat) (un : Int32) (fw : Int32) (ek : Nat) (ef : Nat) (ew : Nat) (ep : Nat) (es : Nat) (n : Nat) (sy : Int32) (dn : Int32) (wf : Nat → Int32) (stf : Nat → Int32) (W0 : Nat → Nat) (i : Nat) (cq : Nat) (O : Nat → Nat) (Pq : Nat → Nat) (uf : Nat → Int32) (vf : Nat → Int32) (qf : Nat → Int32) (tf : Nat → Int32) (bf : Nat → Int32) (L : List Nat) (g : Nat → Nat → Int32) (fo : Nat → Option Nat) (fp : Nat → Option Nat) (fs : Nat → Option Nat) (ro : Nat → Nat) (rp : Nat → Nat) (rs : Nat → Nat) (hgr : GRD L fo fp fs ro rp rs) (hw : n ≤ 8 ∧ ∀ j, j < n → wf j = nI (W0 j) ∧ W0 j ≤ 9) (hi : i < n) (hcq : stf 0 = nI cq ∧ cq ≤ 99) (hO : ∀ q, q < 8 → g (ro i) q = nI (O q)) (hO9 : ∀ q, O q ≤ 99) (hOc : O i = cq) (hPq : ∀ q, i < q → q < n → g (rp i) q = nI (Pq q) ∧ Pq q ≤ 110) : Met l yX9_buyCheapest (wW yX9_buyCheapest cX9_buyCheapest 6 (none : Option FieldType)) ({ frames := 3, cells := 0, slots := 0, locals := 62 } : Room) (va_Pc [Value.ref h1, Value.int (nI i)] (fun U => U.heap.size = sz ∧ va_P (dC, dI) classes (wp [oX9 h1 po pp ps pa pe pb pv pk pu pw pq pt un fw, oX4 pv ek ef ew ep es (nI n) sy dn, cI aC ew 8 wf, cI aC es 5 stf, cA aC pp 8 fp, cA aC po 8 fo, cI aC pb 8 bf, cI aC pu 7 uf, cI aC pw 7 vf, cI aC pq 128 qf, cI aC pt 128 tf] (va_pl L (plE aC g))) U.heap ∧ va_K (dC, dI) classes (TY aC) U ∧ va_D (fun _ => True) (wp [oX9 h1 po pp ps pa pe pb pv pk pu pw pq pt un fw, oX4 pv ek ef ew ep es (nI n) sy dn, cI aC ew 8 wf, cI aC es 5 stf, cA aC pp 8 fp, cA aC po 8 fo, cI aC pb 8 bf, cI aC pu 7 uf, cI aC pw 7 vf, cI aC pq 128 qf, cI aC pt 128 tf] (va_pl L (plE aC g))) ∧ NX U)) (va_Qv (fun (u : Int32 × Int32 × (Nat → Int32) × (Nat → Int32) × (Nat → Int32) × (Nat → Int32) × (Nat → Int32) × (Nat → Nat → Int32) × Int32) => match u with | (un2, fw2, ug, vg, qg, tg, bg, g2, rb) => BST (fun z => nd (stf 1) (sumr W0 i (n - i)) ≤ W0 i + sumr (frf (stf 3) n i Pq W0) 0 (n - 1 - i) + cst (uwf (stf 3) n i Pq W0) z) (cst (fun u => Pq (mu (stf 3) n i u))) (2 ^ (n - 1 - i)) rb ∧ (∀ b, b < 2 ^ (n - 1 - i) → rb = nI b → cst (fun u => Pq (mu (stf 3) n i u)) b ≤ cq → (∀ q, q < 32 → bt (bg i) q = mb (stf 3) n i b (n - 1 - i) q) ∧ ∀ q, q < 8 → g2 (ro i) q = nI (if q = i then O i - cst (fun u => Pq (mu (stf 3) n i u)) b else if mb (stf 3) n i b (n - 1 - i) q = true then Pq q else O q)) ∧ ((rb = -9 ∨ ∃ b, b < 2 ^ (n - 1 - i) ∧ rb = nI b ∧ cq < cst (fun u => Pq (mu (stf 3) n i u)) b) → bg i = bf i ∧ ∀ q, q < 8 → g2 (ro i) q = g (ro i) q) ∧ (∀ q, q ≠ i → bg q = bf q) ∧ ∀ a, a ≠ ro i → g2 a = g a) (fun (u : Int32 × Int32 × (Nat → Int32) × (Nat → Int32) × (Nat → Int32) × (Nat → Int32) × (Nat → Int32) × (Nat → Nat → Int32) × Int32) (t : State) => match u with | (un2, fw2, ug, vg, qg, tg, bg, g2, rb) => va_P (dC, dI) classes (wp [oX9 h1 po pp ps pa pe pb pv pk pu pw pq pt un2 fw2, oX4 pv ek ef ew ep es (nI n) sy dn, cI aC ew 8 wf, cI aC es 5 stf, cA aC pp 8 fp, cA aC po 8 fo, cI aC pb 8 bg, cI aC pu 7 ug, cI aC pw 7 vg, cI aC pq 128 qg, cI aC pt 128 tg] (va_pl L (plE aC g2))) t.heap ∧ va_K (dC, dI) classes (TY aC) t ∧ va_D (va_A (wp [oX9 h1 po pp ps pa pe pb pv pk pu pw pq pt un fw, oX4 pv ek ef ew ep es (nI n) sy dn, cI aC ew 8 wf, cI aC es 5 stf, cA aC pp 8 fp, cA aC po 8 fo, cI aC pb 8 bf, cI aC pu 7 uf, cI aC pw 7 vf, cI aC pq 128 qf, cI aC pt 128 tf] (va_pl L (plE aC g))) sz) (wp [oX9 h1 po pp ps pa pe pb pv pk pu pw pq pt un2 fw2, oX4 pv ek ef ew ep es (nI n) sy dn, cI aC ew 8 wf, cI aC es 5 stf, cA aC pp 8 fp, cA aC po 8 fo, cI aC pb 8 bg, cI aC pu 7 ug, cI aC pw 7 vg, cI aC pq 128 qg, cI aC pt 128 tg] (va_pl L (plE aC g2)))) (va_A (wp [oX9 h1 po pp ps pa pe pb pv pk pu pw pq pt un fw, oX4 pv ek ef ew ep es (nI n) sy dn, cI aC ew 8 wf, cI aC es 5 stf, cA aC pp 8 fp, cA aC po 8 fo, cI aC pb 8 bf, cI aC pu 7 uf, cI aC pw 7 vf, cI aC pq 128 qf, cI aC pt 128 tf] (va_pl L (plE aC g))) sz)) 0 0 (va_A (wp [oX9 h1 po pp ps pa pe pb pv pk pu pw pq pt un fw, oX4 pv ek ef ew ep es (nI n) sy dn, cI aC ew 8 wf, cI aC es 5 stf, cA aC pp 8 fp, cA aC po 8 fo, cI aC pb 8 bf, cI aC pu 7 uf, cI aC pw 7 vf, cI aC pq 128 qf, cI aC pt 128 tf] (va_pl L (plE aC g))) sz) := by
  refine Met.ofW (cc := cX9_buyCheapest) (maxL := 6) (ret := (none : Option FieldType)) (by decide) rfl ?_
  intro p e s m args below meth c s₁ B hml hv
  obtain ⟨rfl, hsz, hP, hK, hD0, hN⟩ := hv
  have hx := B.exec
  have hb := B.bytes
  have hr := B.returns
  have hts0 := atoms_spec (ws := (wW yX9_buyCheapest cX9_buyCheapest 6 (none : Option FieldType))) B.pre
  have hts : ∀ w9 ∈ lw_G, w9.before ([Value.ref h1, Value.int (nI i)] : List Value).toArray s = true := fun w9 h9 => hts0 w9 (List.mem_cons_of_mem _ h9)
  have hown : s.vm.findClass RX9 = some m.cls := findClass_of_methodNamed (x := yX9_buyCheapest) B.named
  have hlocks := B.notSynchronized
  subst hsz
  have hD := hD0.self (sz := s.heap.size)
  generalize hAe : va_A (wp [oX9 h1 po pp ps pa pe pb pv pk pu pw pq pt un fw, oX4 pv ek ef ew ep es (nI n) sy dn, cI aC ew 8 wf, cI aC es 5 stf, cA aC pp 8 fp, cA aC po 8 fo, cI aC pb 8 bf, cI aC pu 7 uf, cI aC pw 7 vf, cI aC pq 128 qf, cI aC pt 128 tf] (va_pl L (plE aC g))) s.heap.size = A at hD ⊢
  have hA : ∀ q : Nat, s.heap.size ≤ q → A q := fun q h => by rw [← hAe]; exact Or.inr h
  obtain ⟨H, hHe⟩ : ∃ H : Heap, H = s.heap := ⟨_, rfl⟩
  have hS : va_S A s.heap H [] := by rw [hHe]; exact va_S.rf
  have hP : va_P (dC, dI) classes (wp [oX9 h1 po pp ps pa pe pb pv pk pu pw pq pt un fw, oX4 pv ek ef ew ep es (nI n) sy dn, cI aC ew 8 wf, cI aC es 5 stf, cA aC pp 8 fp, cA aC po 8 fo, cI aC pb 8 bf, cI aC pu 7 uf, cI aC pw 7 vf, cI aC pq 128 qf, cI aC pt 128 tf] (va_pl L (plE aC g))) H := by rw [hHe]; exact hP
  have hl := lv_entry ([Value.ref h1, Value.int (nI i)]) (n := 6) (Nat.le_of_ble_eq_true rfl)
  rw [lg_entry_eq]
  generalize (lg_sl ([Value.ref h1, Value.int (nI i)]) ++ List.replicate (6 - (lg_sl ([Value.ref h1, Value.int (nI i)])).length) Slot.unset).toArray = ls at hl ⊢
  have hl : lv_has ls 6 [(0, Value.ref h1), (1, Value.int (nI i))] := hl
  rw [← hHe]
  have hn8 := hw.1
  have hp7 := p2_le (t := n - 1 - i) (by omega)
  have hPle : ∀ v, v < n - 1 - i → Pq (mu (stf 3) n i v) ≤ 110 := fun v hv => by
    have h8 := mu_in (fst := stf 3) (n := n) (i := i) (u := v) (by omega)
    exact (hPq _ h8.1 h8.2).2
  have hWle : ∀ v, v < n - 1 - i → W0 (mu (stf 3) n i v) ≤ 9 := fun v hv => (hw.2 _ (mu_in (fst := stf 3) (n := n) (i := i) (u := v) (by omega)).2).2
  have hg2 : g = g := rfl
  refine lv_aload_n hx hb dX9_buyCheapest_0 rfl (lv_at hl 0 rfl) ?_
  have hpd9 := pdf_N (cx := [oX9 h1 po pp ps pa pe pb pv pk pu pw pq pt un fw]) hP hD hS hA [0] (by decide) rfl
  have hPc := hpd9.1
  have hDc := hpd9.2.1
  have hFc := hpd9.2.2
  clear hpd9
  refine va_callv (va_runV (As := []) (rest := []) ⟨hx, hb, hml, hown, hts⟩ (c_X9_forgetUnits l dC dI aC H.size h1 po pp ps pa pe pb pv pk pu pw pq pt un fw ) ⟨(callB_of 0 hts (gG kw_445) rfl rfl rfl (hts _ (gw kw_11 rfl)) (hts _ (gw kw_442 rfl)) hd_X9_forgetUnits ⟨Nat.le_of_ble_eq_true rfl, Nat.le_of_ble_eq_true rfl⟩), (hts _ (gw kw_444 rfl)), (hts _ (gw ks_11 rfl))⟩ ⟨fb_std, va_recv (q := (RX9, TX9, 14)) hK hPc (ci := 9) (q0 := 0) rfl rfl, pre_std hPc hK hDc hN⟩ rfl rfl hl.1 rfl (lv_room (Nat.le_of_ble_eq_true rfl)) dX9_buyCheapest_1 ⟨Nat.le_of_ble_eq_true rfl, Nat.le_of_ble_eq_true rfl⟩) hS (fun q _ h => hFc q h) hFc (fun u9 t9 H1 locs ht hvm hw_1 hB hz1 hk1 hS => ?_)
  obtain ⟨hP1, hK1, hD1⟩ := hB
  rw [ht] at hP1
  clear hK1
  try dsimp only at hw_1
  have hpd9 : PDx (dC, dI) classes A H1 (wp [oX4 pv ek ef ew ep es (nI n) sy dn, cI aC ew 8 wf, cI aC es 5 stf, cA aC pp 8 fp, cA aC po 8 fo, cI aC pb 8 bf, cI aC pu 7 uf, cI aC pw 7 vf, cI aC pq 128 qf, cI aC pt 128 tf, oX9 h1 po pp ps pa pe pb pv pk pu pw pq pt 0 0] (va_pl L (plE aC g))) := jn_Q (wr := [oX4 pv ek ef ew ep es (nI n) sy dn, cI aC ew 8 wf, cI aC es 5 stf, cA aC pp 8 fp, cA aC po 8 fo, cI aC pb 8 bf, cI aC pu 7 uf, cI aC pw 7 vf, cI aC pq 128 qf, cI aC pt 128 tf]) hFc hk1 hP1 hD1 hP hD [0] [1, 2, 3, 4, 5, 6, 7, 8, 9, 10] rfl rfl (by decide) (by decide)
  have hP := hpd9.1
  have hD := hpd9.2
  clear hpd9
  generalize H1 = H at hP hS ⊢
  clear hPc hDc hFc hz1 hk1 hP1 hD1 ht hvm
  refine lv_aload_n hx hb dX9_buyCheapest_4 rfl (lv_at hl 0 rfl) ?_
  refine va_get (D := (dC, dI)) (ci := 9) (v := Value.ref pv) (C := RX9) (T := TX9) (N := 14) hx hb hts inX9 hown hK hP 10 rfl rfl 6 (by decide) (hts _ (gw kw_162 rfl)) (fun _ h9 => h9) rfl dX9_buyCheapest_5 ?_
  refine va_get (D := (dC, dI)) (ci := 4) (v := Value.int (nI n)) (C := RX4) (T := TX4) (N := 8) hx hb hts inX4 hown hK hP 0 rfl rfl 5 (by decide) (hts _ (gw kw_47 rfl)) (fun _ h9 => h9) rfl dX9_buyCheapest_8 ?_
  refine lv_iconst (v := 1) hx hb dX9_buyCheapest_11 (by decide) ?_
  refine lv_isub hx hb dX9_buyCheapest_12 ?_
  refine lv_topi (fun x_2 e_2 => ?_)
  have h9 : x_2 = nI (n - 1) := by rw [e_2]; exact pk_sub (a := n) (b := 1) (by omega)
  subst h9
  refine lv_iload_n hx hb dX9_buyCheapest_13 rfl (lv_at hl 1 rfl) ?_
  refine lv_isub hx hb dX9_buyCheapest_14 ?_
  refine lv_topi (fun x_3 e_3 => ?_)
  have h9 : x_3 = nI (n - 1 - i) := by rw [e_3]; exact pk_sub (by omega)
  subst h9
  refine lv_istore_n (lv' := [(2, Value.int (nI (n - 1 - i))), (0, Value.ref h1), (1, Value.int (nI i))]) hx hb dX9_buyCheapest_15 rfl hl (by decide) rfl (fun ls hl => ?_)
  refine lv_iconst (v := 0) hx hb dX9_buyCheapest_16 (by decide) ?_
  refine lv_istore_n (lv' := [(3, Value.int 0), (2, Value.int (nI (n - 1 - i))), (0, Value.ref h1), (1, Value.int (nI i))]) hx hb dX9_buyCheapest_17 rfl hl (by decide) rfl (fun ls hl => ?_)
  have lp_18 : ∀ (fu : Nat) (u : Nat) (uc : Nat → Int32) (vc : Nat → Int32) (hfu : n - 1 - i - u < fu) (hu9 : u ≤ n - 1 - i) (hv1 : ∀ v, v < u → uc v = nI (Pq (mu (stf 3) n i v)) ∧ vc v = nI (uwf (stf 3) n i Pq W0 v)) (H : Heap) (locs : List Loc) (ls : Array Slot), va_P (dC, dI) classes (wp [oX4 pv ek ef ew ep es (nI n) sy dn, cI aC ew 8 wf, cI aC es 5 stf, cA aC pp 8 fp, cA aC po 8 fo, cI aC pb 8 bf, cI aC pu 7 uc, cI aC pw 7 vc, cI aC pq 128 qf, cI aC pt 128 tf, oX9 h1 po pp ps pa pe pb pv pk pu pw pq pt (nI u) (nI (sumr (frf (stf 3) n i Pq W0) 0 u))] (va_pl L (plE aC g))) H → va_D A (wp [oX4 pv ek ef ew ep es (nI n) sy dn, cI aC ew 8 wf, cI aC es 5 stf, cA aC pp 8 fp, cA aC po 8 fo, cI aC pb 8 bf, cI aC pu 7 uc, cI aC pw 7 vc, cI aC pq 128 qf, cI aC pt 128 tf, oX9 h1 po pp ps pa pe pb pv pk pu pw pq pt (nI u) (nI (sumr (frf (stf 3) n i Pq W0) 0 u))] (va_pl L (plE aC g))) → va_S A s.heap H locs → lv_has ls 6 [(0, Value.ref h1), (1, Value.int (nI i)), (2, Value.int (nI (n - 1 - i))), (3, Value.int (nI u))] → W p l e (headSpec (wW yX9_buyCheapest cX9_buyCheapest 6 (none : Option FieldType)) ({ frames := 3, cells := 0, slots := 0, locals := 62 } : Room)).room s m ([Value.ref h1, Value.int (nI i)] : List Value).toArray below meth c H locs 0 0 (MQ below (va_Qv (fun (u : Int32 × Int32 × (Nat → Int32) × (Nat → Int32) × (Nat → Int32) × (Nat → Int32) × (Nat → Int32) × (Nat → Nat → Int32) × Int32) => match u with | (un2, fw2, ug, vg, qg, tg, bg, g2, rb) => BST (fun z => nd (stf 1) (sumr W0 i (n - i)) ≤ W0 i + sumr (frf (stf 3) n i Pq W0) 0 (n - 1 - i) + cst (uwf (stf 3) n i Pq W0) z) (cst (fun u => Pq (mu (stf 3) n i u))) (2 ^ (n - 1 - i)) rb ∧ (∀ b, b < 2 ^ (n - 1 - i) → rb = nI b → cst (fun u => Pq (mu (stf 3) n i u)) b ≤ cq → (∀ q, q < 32 → bt (bg i) q = mb (stf 3) n i b (n - 1 - i) q) ∧ ∀ q, q < 8 → g2 (ro i) q = nI (if q = i then O i - cst (fun u => Pq (mu (stf 3) n i u)) b else if mb (stf 3) n i b (n - 1 - i) q = true then Pq q else O q)) ∧ ((rb = -9 ∨ ∃ b, b < 2 ^ (n - 1 - i) ∧ rb = nI b ∧ cq < cst (fun u => Pq (mu (stf 3) n i u)) b) → bg i = bf i ∧ ∀ q, q < 8 → g2 (ro i) q = g (ro i) q) ∧ (∀ q, q ≠ i → bg q = bf q) ∧ ∀ a, a ≠ ro i → g2 a = g a) (fun (u : Int32 × Int32 × (Nat → Int32) × (Nat → Int32) × (Nat → Int32) × (Nat → Int32) × (Nat → Int32) × (Nat → Nat → Int32) × Int32) (t : State) => match u with | (un2, fw2, ug, vg, qg, tg, bg, g2, rb) => va_P (dC, dI) classes (wp [oX9 h1 po pp ps pa pe pb pv pk pu pw pq pt un2 fw2, oX4 pv ek ef ew ep es (nI n) sy dn, cI aC ew 8 wf, cI aC es 5 stf, cA aC pp 8 fp, cA aC po 8 fo, cI aC pb 8 bg, cI aC pu 7 ug, cI aC pw 7 vg, cI aC pq 128 qg, cI aC pt 128 tg] (va_pl L (plE aC g2))) t.heap ∧ va_K (dC, dI) classes (TY aC) t ∧ va_D A (wp [oX9 h1 po pp ps pa pe pb pv pk pu pw pq pt un2 fw2, oX4 pv ek ef ew ep es (nI n) sy dn, cI aC ew 8 wf, cI aC es 5 stf, cA aC pp 8 fp, cA aC po 8 fo, cI aC pb 8 bg, cI aC pu 7 ug, cI aC pw 7 vg, cI aC pq 128 qg, cI aC pt 128 tg] (va_pl L (plE aC g2)))) A) ([Value.ref h1, Value.int (nI i)] : List Value).toArray s 0 0 A) (F0 m 18 ls []) := by
    intro fu
    induction fu with
    | zero => intro u uc vc hfu; exact absurd hfu (Nat.not_lt_zero _)
    | succ fu ih_18 =>
      intro u uc vc hfu hu9 hv1 H locs ls hP hD hS hl
      refine lv_iload_n hx hb dX9_buyCheapest_18 rfl (lv_at hl 3 rfl) ?_
      refine lv_iload_n hx hb dX9_buyCheapest_19 rfl (lv_at hl 2 rfl) ?_
      refine lv_icmp_ge (tgt := 60) hx hb dX9_buyCheapest_20 (by decide) (fun c_4 => ?_) (fun c_4 => ?_)
      · have hue : u = n - 1 - i := by
          rcases Nat.lt_or_ge u (n - 1 - i) with q | q
          · exact absurd c_4 (nI_ge q (by omega))
          · omega
        subst hue
        have hfr9 := sumr_le (f := (frf (stf 3) n i Pq W0)) (a := 0) (b := 9) (k := n - 1 - i) (fun v _ q => by have := hWle v (by omega); unfold frf; split <;> omega)
        refine lv_aload_n hx hb dX9_buyCheapest_60 rfl (lv_at hl 0 rfl) ?_
        refine lv_iload_n hx hb dX9_buyCheapest_61 rfl (lv_at hl 1 rfl) ?_
        have hpd9 := pdf_N (cx := [oX9 h1 po pp ps pa pe pb pv pk pu pw pq pt (nI (n - 1 - i)) (nI (sumr (frf (stf 3) n i Pq W0) 0 (n - 1 - i))), oX4 pv ek ef ew ep es (nI n) sy dn, cI aC ew 8 wf, cI aC es 5 stf, cI aC pu 7 uc, cI aC pw 7 vc, cI aC pq 128 qf, cI aC pt 128 tf]) hP hD hS hA [10, 0, 1, 2, 6, 7, 8, 9] (by decide) rfl
        have hPc := hpd9.1
        have hDc := hpd9.2.1
        have hFc := hpd9.2.2
        clear hpd9
        refine va_calli (va_runV (As := [Value.int (nI i)]) (rest := []) ⟨hx, hb, hml, hown, hts⟩ (c_X9_cheapestSet l dC dI aC H.size h1 po pp ps pa pe pb pv pk pu pw pq pt ek ef ew ep es n sy dn wf stf W0 i (n - 1 - i) (sumr (frf (stf 3) n i Pq W0) 0 (n - 1 - i)) (fun u => Pq (mu (stf 3) n i u)) (uwf (stf 3) n i Pq W0) uc vc qf tf (hw) (hi) (by omega) (by omega) (fun v q => ⟨hv1 v (by omega), by have := hWle v q; unfold uwf; split <;> omega, by have := hPle v q; show Pq _ ≤ 200; omega⟩)) ⟨(callB_of 1 hts (gG kw_457) rfl rfl rfl (hts _ (gw kw_11 rfl)) (hts _ (gw kw_454 rfl)) hd_X9_cheapestSet ⟨Nat.le_of_ble_eq_true rfl, Nat.le_of_ble_eq_true rfl⟩), (hts _ (gw kw_456 rfl)), (hts _ (gw ks_14 rfl))⟩ ⟨fb_std, va_recv (q := (RX9, TX9, 14)) hK hPc (ci := 9) (q0 := 0) rfl rfl, pre_std hPc hK hDc hN⟩ rfl rfl hl.1 rfl (lv_room (Nat.le_of_ble_eq_true rfl)) dX9_buyCheapest_62 ⟨Nat.le_of_ble_eq_true rfl, Nat.le_of_ble_eq_true rfl⟩) hS (fun q _ h => hFc q h) hFc (fun x_5 u9 t9 H1 locs ht hvm hw_5 hB hz1 hk1 hS => ?_)
        obtain ⟨u_6, u_7⟩ := u9
        obtain ⟨hP1, hK1, hD1⟩ := hB
        rw [ht] at hP1
        clear hK1
        try dsimp only at hw_5
        have hpd9 : PDx (dC, dI) classes A H1 (wp [cA aC pp 8 fp, cA aC po 8 fo, cI aC pb 8 bf, oX9 h1 po pp ps pa pe pb pv pk pu pw pq pt (nI (n - 1 - i)) (nI (sumr (frf (stf 3) n i Pq W0) 0 (n - 1 - i))), oX4 pv ek ef ew ep es (nI n) sy dn, cI aC ew 8 wf, cI aC es 5 stf, cI aC pu 7 uc, cI aC pw 7 vc, cI aC pq 128 u_6, cI aC pt 128 u_7] (va_pl L (plE aC g))) := jn_Q (wr := [cA aC pp 8 fp, cA aC po 8 fo, cI aC pb 8 bf]) hFc hk1 hP1 hD1 hP hD [10, 0, 1, 2, 6, 7, 8, 9] [3, 4, 5] rfl rfl (by decide) (by decide)
        have hP := hpd9.1
        have hD := hpd9.2
        clear hpd9
        generalize H1 = H at hP hS ⊢
        clear hPc hDc hFc hz1 hk1 hP1 hD1 ht hvm
        obtain ⟨hbst, hqg⟩ := hw_5
        refine lv_istore_n (lv' := [(3, Value.int x_5), (0, Value.ref h1), (1, Value.int (nI i)), (2, Value.int (nI (n - 1 - i)))]) hx hb dX9_buyCheapest_65 rfl hl (by decide) rfl (fun ls hl => ?_)
        refine lv_iload_n hx hb dX9_buyCheapest_66 rfl (lv_at hl 0 rfl) ?_
        refine lv_if_lt (tgt := 88) hx hb dX9_buyCheapest_67 (by decide) (fun c_8 => ?_) (fun c_8 => ?_)
        · have hpd9 := pd_P (cx := [oX9 h1 po pp ps pa pe pb pv pk pu pw pq pt (nI (n - 1 - i)) (nI (sumr (frf (stf 3) n i Pq W0) 0 (n - 1 - i))), oX4 pv ek ef ew ep es (nI n) sy dn, cI aC ew 8 wf, cI aC es 5 stf, cA aC pp 8 fp, cA aC po 8 fo, cI aC pb 8 bf, cI aC pu 7 uc, cI aC pw 7 vc, cI aC pq 128 u_6, cI aC pt 128 u_7]) hP hD [3, 4, 5, 6, 0, 1, 2, 7, 8, 9, 10] (by decide) rfl
          have hP9 := hpd9.1
          have hD9 := hpd9.2
          refine W.widen (k := 0) (n := 0) (by omega) (by omega) ?_
          exact W.vret hx hb hr (fun t ht hW => ⟨⟨((nI (n - 1 - i)), (nI (sumr (frf (stf 3) n i Pq W0) 0 (n - 1 - i))), uc, vc, u_6, u_7, bf, g, x_5), rfl, ⟨hbst, fun b' q1 q2 q3 => (bc_none (ct := cst (fun u => Pq (mu (stf 3) n i u))) (N := 2 ^ (n - 1 - i)) (cq := cq) (by omega) (Or.inl (hbst.resolve_right (fun ⟨b, q1, q2, _⟩ => absurd c_8 (by rw [q2]; exact nI_pos (by omega)))).1) q1 q2 q3).elim, fun _ => ⟨rfl, fun q hq => rfl⟩, fun q _ => rfl, fun a _ => rfl⟩, by rw [ht]; exact hP9, va_K.moved hW.alike hK, hD9⟩, hS.F ht⟩) hS.2.2 dX9_buyCheapest_88
        · obtain ⟨b, hb1, hb2, hb3, hb4⟩ := hbst.resolve_left (fun h => c_8 (by rw [h.1]; decide))
          have h9 : x_5 = nI b := hb2
          subst h9
          have hcb := cst_le (f := (fun u => Pq (mu (stf 3) n i u))) (k := (n - 1 - i)) (s := b) (b := 110) hb1 (fun v q => hPle v (by omega))
          refine lv_aload_n hx hb dX9_buyCheapest_70 rfl (lv_at hl 1 rfl) ?_
          refine va_get (D := (dC, dI)) (ci := 9) (v := Value.ref pq) (C := RX9) (T := TX9) (N := 14) hx hb hts inX9 hown hK hP 3 rfl rfl 10 (by decide) (hts _ (gw kw_167 rfl)) (fun _ h9 => h9) rfl dX9_buyCheapest_71 ?_
          refine lv_iload_n hx hb dX9_buyCheapest_74 rfl (lv_at hl 0 rfl) ?_
          have h_9 : vp_in (nI b) 128 := vp_in_nI (by omega) (by omega)
          refine va_iald hx hb hK hP 9 0 rfl rfl h_9 dX9_buyCheapest_75 ?_
          refine lv_topi (fun x_10 e_10 => ?_)
          have h9 : x_10 = nI (cst (fun u => Pq (mu (stf 3) n i u)) b) := by rw [e_10, nI_clamp (by omega)]; exact hqg b hb1
          subst h9
          refine lv_aload_n hx hb dX9_buyCheapest_76 rfl (lv_at hl 1 rfl) ?_
          refine va_get (D := (dC, dI)) (ci := 9) (v := Value.ref pv) (C := RX9) (T := TX9) (N := 14) hx hb hts inX9 hown hK hP 3 rfl rfl 6 (by decide) (hts _ (gw kw_162 rfl)) (fun _ h9 => h9) rfl dX9_buyCheapest_77 ?_
          refine va_get (D := (dC, dI)) (ci := 4) (v := Value.ref es) (C := RX4) (T := TX4) (N := 8) hx hb hts inX4 hown hK hP 4 rfl rfl 4 (by decide) (hts _ (gw kw_44 rfl)) (fun _ h9 => h9) rfl dX9_buyCheapest_80 ?_
          refine lv_iconst (v := 0) hx hb dX9_buyCheapest_83 (by decide) ?_
          have h_11 : vp_in 0 5 := by first | exact vp_in_nI (by omega) (by omega) | (unfold vp_in; decide) | (subst_vars; first | (unfold vp_in; decide) | exact vp_in_nI (by omega) (by omega))
          refine va_iald hx hb hK hP 6 0 rfl rfl h_11 dX9_buyCheapest_84 ?_
          refine lv_topi (fun x_12 e_12 => ?_)
          have h9 : x_12 = nI cq := by rw [e_12]; exact hcq.1
          subst h9
          refine lv_icmp_le (tgt := 89) hx hb dX9_buyCheapest_85 (by decide) (fun c_13 => ?_) (fun c_13 => ?_)
          · have hlec : cst (fun u => Pq (mu (stf 3) n i u)) b ≤ cq := (nI_leI (by omega) (by omega)).mp c_13
            refine lv_aload_n hx hb dX9_buyCheapest_89 rfl (lv_at hl 1 rfl) ?_
            refine va_get (D := (dC, dI)) (ci := 9) (v := Value.ref pb) (C := RX9) (T := TX9) (N := 14) hx hb hts inX9 hown hK hP 3 rfl rfl 5 (by decide) (hts _ (gw kw_160 rfl)) (fun _ h9 => h9) rfl dX9_buyCheapest_90 ?_
            refine lv_iload_n hx hb dX9_buyCheapest_93 rfl (lv_at hl 2 rfl) ?_
            refine lv_iconst (v := 0) hx hb dX9_buyCheapest_94 (by decide) ?_
            have h_14 : vp_in (nI i) 8 := by first | exact vp_in_nI (by omega) (by omega) | (unfold vp_in; decide) | (subst_vars; first | (unfold vp_in; decide) | exact vp_in_nI (by omega) (by omega))
            refine va_iast hx hb hK hP hD hS 2 0 rfl rfl h_14 dX9_buyCheapest_95 (fun H locs hP hD hS => ?_)
            obtain ⟨f_15, e_f_15⟩ : ∃ y : Nat → Int32, y = upd bf (nI i : Int32).toNatClampNeg 0 := ⟨_, rfl⟩
            have hpd9 : PDx (dC, dI) classes A H (wp [cA aC pp 8 fp, cA aC po 8 fo, cI aC pb 8 f_15, oX9 h1 po pp ps pa pe pb pv pk pu pw pq pt (nI (n - 1 - i)) (nI (sumr (frf (stf 3) n i Pq W0) 0 (n - 1 - i))), oX4 pv ek ef ew ep es (nI n) sy dn, cI aC ew 8 wf, cI aC es 5 stf, cI aC pu 7 uc, cI aC pw 7 vc, cI aC pq 128 u_6, cI aC pt 128 u_7] (va_pl L (plE aC g))) := by rw [e_f_15]; exact ⟨hP, hD⟩
            have hP := hpd9.1
            have hD := hpd9.2
            clear hpd9
            refine lv_iconst (v := 0) hx hb dX9_buyCheapest_96 (by decide) ?_
            refine lv_istore (lv' := [(4, Value.int 0), (3, Value.int (nI b)), (0, Value.ref h1), (1, Value.int (nI i)), (2, Value.int (nI (n - 1 - i)))]) hx hb dX9_buyCheapest_97 hl (by decide) rfl (fun ls hl => ?_)
            have lp_99 : ∀ (fu : Nat) (u : Nat) (bc : Nat → Int32) (gc : Nat → Nat → Int32) (hfu : n - 1 - i - u < fu) (hu8 : u ≤ n - 1 - i) (hbc : ∀ q, q < 32 → bt (bc i) q = mb (stf 3) n i b u q) (hgc : ∀ q, q < 8 → gc (ro i) q = nI (if mb (stf 3) n i b u q = true then Pq q else O q)) (hbf : ∀ q, q ≠ i → bc q = bf q) (hgf : ∀ a, a ≠ ro i → gc a = g a) (H : Heap) (locs : List Loc) (ls : Array Slot), va_P (dC, dI) classes (wp [cA aC pp 8 fp, cA aC po 8 fo, cI aC pb 8 bc, oX9 h1 po pp ps pa pe pb pv pk pu pw pq pt (nI (n - 1 - i)) (nI (sumr (frf (stf 3) n i Pq W0) 0 (n - 1 - i))), oX4 pv ek ef ew ep es (nI n) sy dn, cI aC ew 8 wf, cI aC es 5 stf, cI aC pu 7 uc, cI aC pw 7 vc, cI aC pq 128 u_6, cI aC pt 128 u_7] (va_pl L (plE aC gc))) H → va_D A (wp [cA aC pp 8 fp, cA aC po 8 fo, cI aC pb 8 bc, oX9 h1 po pp ps pa pe pb pv pk pu pw pq pt (nI (n - 1 - i)) (nI (sumr (frf (stf 3) n i Pq W0) 0 (n - 1 - i))), oX4 pv ek ef ew ep es (nI n) sy dn, cI aC ew 8 wf, cI aC es 5 stf, cI aC pu 7 uc, cI aC pw 7 vc, cI aC pq 128 u_6, cI aC pt 128 u_7] (va_pl L (plE aC gc))) → va_S A s.heap H locs → lv_has ls 6 [(0, Value.ref h1), (1, Value.int (nI i)), (3, Value.int (nI b)), (4, Value.int (nI u))] → W p l e (headSpec (wW yX9_buyCheapest cX9_buyCheapest 6 (none : Option FieldType)) ({ frames := 3, cells := 0, slots := 0, locals := 62 } : Room)).room s m ([Value.ref h1, Value.int (nI i)] : List Value).toArray below meth c H locs 0 0 (MQ below (va_Qv (fun (u : Int32 × Int32 × (Nat → Int32) × (Nat → Int32) × (Nat → Int32) × (Nat → Int32) × (Nat → Int32) × (Nat → Nat → Int32) × Int32) => match u with | (un2, fw2, ug, vg, qg, tg, bg, g2, rb) => BST (fun z => nd (stf 1) (sumr W0 i (n - i)) ≤ W0 i + sumr (frf (stf 3) n i Pq W0) 0 (n - 1 - i) + cst (uwf (stf 3) n i Pq W0) z) (cst (fun u => Pq (mu (stf 3) n i u))) (2 ^ (n - 1 - i)) rb ∧ (∀ b, b < 2 ^ (n - 1 - i) → rb = nI b → cst (fun u => Pq (mu (stf 3) n i u)) b ≤ cq → (∀ q, q < 32 → bt (bg i) q = mb (stf 3) n i b (n - 1 - i) q) ∧ ∀ q, q < 8 → g2 (ro i) q = nI (if q = i then O i - cst (fun u => Pq (mu (stf 3) n i u)) b else if mb (stf 3) n i b (n - 1 - i) q = true then Pq q else O q)) ∧ ((rb = -9 ∨ ∃ b, b < 2 ^ (n - 1 - i) ∧ rb = nI b ∧ cq < cst (fun u => Pq (mu (stf 3) n i u)) b) → bg i = bf i ∧ ∀ q, q < 8 → g2 (ro i) q = g (ro i) q) ∧ (∀ q, q ≠ i → bg q = bf q) ∧ ∀ a, a ≠ ro i → g2 a = g a) (fun (u : Int32 × Int32 × (Nat → Int32) × (Nat → Int32) × (Nat → Int32) × (Nat → Int32) × (Nat → Int32) × (Nat → Nat → Int32) × Int32) (t : State) => match u with | (un2, fw2, ug, vg, qg, tg, bg, g2, rb) => va_P (dC, dI) classes (wp [oX9 h1 po pp ps pa pe pb pv pk pu pw pq pt un2 fw2, oX4 pv ek ef ew ep es (nI n) sy dn, cI aC ew 8 wf, cI aC es 5 stf, cA aC pp 8 fp, cA aC po 8 fo, cI aC pb 8 bg, cI aC pu 7 ug, cI aC pw 7 vg, cI aC pq 128 qg, cI aC pt 128 tg] (va_pl L (plE aC g2))) t.heap ∧ va_K (dC, dI) classes (TY aC) t ∧ va_D A (wp [oX9 h1 po pp ps pa pe pb pv pk pu pw pq pt un2 fw2, oX4 pv ek ef ew ep es (nI n) sy dn, cI aC ew 8 wf, cI aC es 5 stf, cA aC pp 8 fp, cA aC po 8 fo, cI aC pb 8 bg, cI aC pu 7 ug, cI aC pw 7 vg, cI aC pq 128 qg, cI aC pt 128 tg] (va_pl L (plE aC g2)))) A) ([Value.ref h1, Value.int (nI i)] : List Value).toArray s 0 0 A) (F0 m 99 ls []) := by
              intro fu
              induction fu with
              | zero => intro u bc gc hfu; exact absurd hfu (Nat.not_lt_zero _)
              | succ fu ih_99 =>
                intro u bc gc hfu hu8 hbc hgc hbf hgf H locs ls hP hD hS hl
                refine lv_iload hx hb dX9_buyCheapest_99 (lv_at hl 3 rfl) ?_
                refine lv_aload_n hx hb dX9_buyCheapest_101 rfl (lv_at hl 0 rfl) ?_
                refine va_get (D := (dC, dI)) (ci := 9) (v := Value.int (nI (n - 1 - i))) (C := RX9) (T := TX9) (N := 14) hx hb hts inX9 hown hK hP 3 rfl rfl 12 (by decide) (hts _ (gw kw_169 rfl)) (fun _ h9 => h9) rfl dX9_buyCheapest_102 ?_
                refine lv_icmp_ge (tgt := 162) hx hb dX9_buyCheapest_105 (by decide) (fun c_16 => ?_) (fun c_16 => ?_)
                · have hue : u = (n - 1 - i) := by
                    rcases Nat.lt_or_ge u (n - 1 - i) with q | q
                    · exact absurd c_16 (nI_ge q (by omega))
                    · omega
                  have hOi := hO9 i
                  refine lv_aload_n hx hb dX9_buyCheapest_162 rfl (lv_at hl 0 rfl) ?_
                  refine va_get (D := (dC, dI)) (ci := 9) (v := Value.ref po) (C := RX9) (T := TX9) (N := 14) hx hb hts inX9 hown hK hP 3 rfl rfl 0 (by decide) (hts _ (gw kw_150 rfl)) (fun _ h9 => h9) rfl dX9_buyCheapest_163 ?_
                  refine lv_iload_n hx hb dX9_buyCheapest_166 rfl (lv_at hl 1 rfl) ?_
                  have h_17 : vp_in (nI i) 8 := by first | exact vp_in_nI (by omega) (by omega) | (unfold vp_in; decide) | (subst_vars; first | (unfold vp_in; decide) | exact vp_in_nI (by omega) (by omega))
                  refine va_alda (r := ro i) hx hb hK hP 1 rfl h_17 (by rw [nI_clamp (by omega)]; exact (hgr.1 i (by omega)).1.1) dX9_buyCheapest_167 ?_
                  refine lv_iload_n hx hb dX9_buyCheapest_168 rfl (lv_at hl 1 rfl) ?_
                  refine lv_dup2_11 hx hb dX9_buyCheapest_169 rfl rfl ?_
                  have h_18 : vp_in (nI i) 8 := by first | exact vp_in_nI (by omega) (by omega) | (unfold vp_in; decide) | (subst_vars; first | (unfold vp_in; decide) | exact vp_in_nI (by omega) (by omega))
                  refine pl_iald hx hb hK hP ((hgr.1 i (by omega)).1.2) h_18 dX9_buyCheapest_170 ?_
                  refine lv_topi (fun x_19 e_19 => ?_)
                  have h9 : x_19 = nI (O i) := by rw [e_19, nI_clamp (by omega), hgc i (by omega), mb_i (by omega)]; rfl
                  subst h9
                  refine lv_aload_n hx hb dX9_buyCheapest_171 rfl (lv_at hl 0 rfl) ?_
                  refine va_get (D := (dC, dI)) (ci := 9) (v := Value.ref pq) (C := RX9) (T := TX9) (N := 14) hx hb hts inX9 hown hK hP 3 rfl rfl 10 (by decide) (hts _ (gw kw_167 rfl)) (fun _ h9 => h9) rfl dX9_buyCheapest_172 ?_
                  refine lv_iload_n hx hb dX9_buyCheapest_175 rfl (lv_at hl 2 rfl) ?_
                  have h_20 : vp_in (nI b) 128 := vp_in_nI (by omega) (by omega)
                  refine va_iald hx hb hK hP 9 0 rfl rfl h_20 dX9_buyCheapest_176 ?_
                  refine lv_topi (fun x_21 e_21 => ?_)
                  have h9 : x_21 = nI (cst (fun u => Pq (mu (stf 3) n i u)) b) := by rw [e_21, nI_clamp (by omega)]; exact hqg b hb1
                  subst h9
                  refine lv_isub hx hb dX9_buyCheapest_177 ?_
                  refine lv_topi (fun x_22 e_22 => ?_)
                  have h9 : x_22 = nI (O i - cst (fun u => Pq (mu (stf 3) n i u)) b) := by rw [e_22]; exact pk_sub (by rw [hOc]; exact hlec)
                  subst h9
                  have h_23 : vp_in (nI i) 8 := by first | exact vp_in_nI (by omega) (by omega) | (unfold vp_in; decide) | (subst_vars; first | (unfold vp_in; decide) | exact vp_in_nI (by omega) (by omega))
                  refine pl_iast hx hb hK hP hD hS ((hgr.1 i (by omega)).1.2) h_23 dX9_buyCheapest_178 (fun H locs hP hD hS => ?_)
                  obtain ⟨g_24, e_g_24⟩ : ∃ y : Nat → Nat → Int32, y = va_up gc (ro i) (upd (gc (ro i)) (nI i : Int32).toNatClampNeg (nI (O i - cst (fun u => Pq (mu (stf 3) n i u)) b))) := ⟨_, rfl⟩
                  have hpd9 : PDx (dC, dI) classes A H (wp [cA aC pp 8 fp, cA aC po 8 fo, cI aC pb 8 bc, oX9 h1 po pp ps pa pe pb pv pk pu pw pq pt (nI (n - 1 - i)) (nI (sumr (frf (stf 3) n i Pq W0) 0 (n - 1 - i))), oX4 pv ek ef ew ep es (nI n) sy dn, cI aC ew 8 wf, cI aC es 5 stf, cI aC pu 7 uc, cI aC pw 7 vc, cI aC pq 128 u_6, cI aC pt 128 u_7] (va_pl L (plE aC g_24))) := by rw [e_g_24]; exact ⟨hP, hD⟩
                  have hP := hpd9.1
                  have hD := hpd9.2
                  clear hpd9
                  have hpd9 := pd_P (cx := [oX9 h1 po pp ps pa pe pb pv pk pu pw pq pt (nI (n - 1 - i)) (nI (sumr (frf (stf 3) n i Pq W0) 0 (n - 1 - i))), oX4 pv ek ef ew ep es (nI n) sy dn, cI aC ew 8 wf, cI aC es 5 stf, cA aC pp 8 fp, cA aC po 8 fo, cI aC pb 8 bc, cI aC pu 7 uc, cI aC pw 7 vc, cI aC pq 128 u_6, cI aC pt 128 u_7]) hP hD [3, 4, 5, 6, 0, 1, 2, 7, 8, 9, 10] (by decide) rfl
                  have hP9 := hpd9.1
                  have hD9 := hpd9.2
                  refine W.widen (k := 0) (n := 0) (by omega) (by omega) ?_
                  exact W.vret hx hb hr (fun t ht hW => ⟨⟨((nI (n - 1 - i)), (nI (sumr (frf (stf 3) n i Pq W0) 0 (n - 1 - i))), uc, vc, u_6, u_7, bc, g_24, (nI b)), rfl, ⟨Or.inr ⟨b, hb1, rfl, hb3, hb4⟩, fun b' q1 q2 q3 => by have h5 : b = b' := (nI_eq (by omega) (by omega)).mp q2; subst h5; exact ⟨fun q hq => by rw [hbc q hq, hue], fun q hq => by rw [e_g_24, nI_clamp (by omega), up_s]; by_cases e : q = i <;> first | (rw [e, pk_us, if_pos rfl]; done) | (rw [pk_un e, if_neg e, hgc q hq, hue])⟩, fun h => (bc_none (ct := cst (fun u => Pq (mu (stf 3) n i u))) (N := 2 ^ (n - 1 - i)) (cq := cq) (by omega) h hb1 rfl hlec).elim, hbf, fun a h => by rw [e_g_24, up_n h]; exact hgf a h⟩, by rw [ht]; exact hP9, va_K.moved hW.alike hK, hD9⟩, hS.F ht⟩) hS.2.2 dX9_buyCheapest_179
                · have hlu : u < (n - 1 - i) := by
                    rcases Nat.lt_or_ge u (n - 1 - i) with q | q
                    · exact q
                    · exact absurd (nI_le q (by omega)) c_16
                  have hmu := mu_in (fst := stf 3) (n := n) (i := i) (u := u) (by omega)
                  refine lv_iload_n hx hb dX9_buyCheapest_108 rfl (lv_at hl 2 rfl) ?_
                  refine lv_iload hx hb dX9_buyCheapest_109 (lv_at hl 3 rfl) ?_
                  refine lv_ishr hx hb dX9_buyCheapest_111 ?_
                  refine lv_topi (fun x_25 e_25 => ?_)
                  refine lv_iconst (v := 1) hx hb dX9_buyCheapest_112 (by decide) ?_
                  refine lv_iand hx hb dX9_buyCheapest_113 ?_
                  refine lv_topi (fun x_26 e_26 => ?_)
                  refine lv_iconst (v := 1) hx hb dX9_buyCheapest_114 (by decide) ?_
                  refine lv_icmp_ne (tgt := 156) hx hb dX9_buyCheapest_115 (by decide) (fun c_27 => ?_) (fun c_27 => ?_)
                  · have hbt : b.testBit u = false := by
                      rw [← b_get (by omega) (by omega)]
                      exact Bool.eq_false_iff.mpr (fun q => c_27 (by rw [e_26, e_25]; exact (b_tst (by omega)).mpr q))
                    have hn1 : ∀ q, q < 32 → bt (bc i) q = mb (stf 3) n i b (u + 1) q := fun q hq => by rw [hbc q hq, mb_s, hbt]; simp
                    have hn2 : ∀ q, q < 8 → gc (ro i) q = nI (if mb (stf 3) n i b (u + 1) q = true then Pq q else O q) := fun q hq => by rw [hgc q hq, mb_s, hbt]; simp
                    have hn3 := hbf
                    have hn4 := hgf
                    obtain ⟨x_28, e_28⟩ : ∃ y : Int32, y = (nI u) + 1 := ⟨_, rfl⟩
                    refine lv_iinc (v := x_28) (lv' := [(4, Value.int x_28), (0, Value.ref h1), (1, Value.int (nI i)), (3, Value.int (nI b))]) hx hb dX9_buyCheapest_156 hl (k := 3) rfl (by rw [e_28]; rfl) (by decide) rfl (fun ls hl => ?_)
                    have h9 : x_28 = nI (u + 1) := by rw [e_28, nI_1]
                    subst h9
                    refine lv_goto (tgt := 99) hx hb dX9_buyCheapest_159 (by decide) ?_
                    exact ih_99 (u + 1) bc gc (by omega) (by omega) (hn1) (hn2) (hn3) (hn4) _ _ _ (plP hP [0, 1, 2, 3, 4, 5, 6, 7, 8, 9, 10] rfl) (plD hD [0, 1, 2, 3, 4, 5, 6, 7, 8, 9, 10] (by decide) rfl) hS (lv_sub hl [1, 2, 3, 0] rfl)
                  · refine lv_aload_n hx hb dX9_buyCheapest_118 rfl (lv_at hl 0 rfl) ?_
                    refine lv_iload_n hx hb dX9_buyCheapest_119 rfl (lv_at hl 1 rfl) ?_
                    refine lv_iload hx hb dX9_buyCheapest_120 (lv_at hl 3 rfl) ?_
                    have hpd9 := pdf_N (cx := [oX9 h1 po pp ps pa pe pb pv pk pu pw pq pt (nI (n - 1 - i)) (nI (sumr (frf (stf 3) n i Pq W0) 0 (n - 1 - i))), oX4 pv ek ef ew ep es (nI n) sy dn, cI aC es 5 stf]) hP hD hS hA [3, 4, 6] (by decide) rfl
                    have hPc := hpd9.1
                    have hDc := hpd9.2.1
                    have hFc := hpd9.2.2
                    clear hpd9
                    refine va_calli (va_runV (As := [Value.int (nI i), Value.int (nI u)]) (rest := []) ⟨hx, hb, hml, hown, hts⟩ (c_X9_manOfUnit l dC dI aC H.size h1 po pp ps pa pe pb pv pk pu pw pq pt (nI (n - 1 - i)) (nI (sumr (frf (stf 3) n i Pq W0) 0 (n - 1 - i))) ek ef ew ep es n sy dn stf i u (by omega)) ⟨(callB_of 2 hts (gG kw_449) rfl rfl rfl (hts _ (gw kw_11 rfl)) (hts _ (gw kw_446 rfl)) hd_X9_manOfUnit ⟨Nat.le_of_ble_eq_true rfl, Nat.le_of_ble_eq_true rfl⟩), (hts _ (gw kw_448 rfl)), (hts _ (gw ks_12 rfl))⟩ ⟨fb_std, va_recv (q := (RX9, TX9, 14)) hK hPc (ci := 9) (q0 := 0) rfl rfl, pre_std hPc hK hDc hN⟩ rfl rfl hl.1 rfl (lv_room (Nat.le_of_ble_eq_true rfl)) dX9_buyCheapest_122 ⟨Nat.le_of_ble_eq_true rfl, Nat.le_of_ble_eq_true rfl⟩) hS (fun q _ h => hFc q h) hFc (fun x_29 u9 t9 H1 locs ht hvm hw_29 hB hz1 hk1 hS => ?_)
                    obtain ⟨hP1, hK1, hD1⟩ := hB
                    rw [ht] at hP1
                    clear hK1
                    try dsimp only at hw_29
                    have hpd9 : PDx (dC, dI) classes A H1 (wp [cA aC pp 8 fp, cA aC po 8 fo, cI aC pb 8 bc, cI aC ew 8 wf, cI aC pu 7 uc, cI aC pw 7 vc, cI aC pq 128 u_6, cI aC pt 128 u_7, oX9 h1 po pp ps pa pe pb pv pk pu pw pq pt (nI (n - 1 - i)) (nI (sumr (frf (stf 3) n i Pq W0) 0 (n - 1 - i))), oX4 pv ek ef ew ep es (nI n) sy dn, cI aC es 5 stf] (va_pl L (plE aC gc))) := jn_Q (wr := [cA aC pp 8 fp, cA aC po 8 fo, cI aC pb 8 bc, cI aC ew 8 wf, cI aC pu 7 uc, cI aC pw 7 vc, cI aC pq 128 u_6, cI aC pt 128 u_7]) hFc hk1 hP1 hD1 hP hD [3, 4, 6] [0, 1, 2, 5, 7, 8, 9, 10] rfl rfl (by decide) (by decide)
                    have hP := hpd9.1
                    have hD := hpd9.2
                    clear hpd9
                    generalize H1 = H at hP hS ⊢
                    clear hPc hDc hFc hz1 hk1 hP1 hD1 ht hvm
                    have h9 : x_29 = nI (mu (stf 3) n i u) := hw_29
                    subst h9
                    refine lv_istore (lv' := [(5, Value.int (nI (mu (stf 3) n i u))), (0, Value.ref h1), (1, Value.int (nI i)), (3, Value.int (nI b)), (4, Value.int (nI u))]) hx hb dX9_buyCheapest_125 hl (by decide) rfl (fun ls hl => ?_)
                    refine lv_aload_n hx hb dX9_buyCheapest_127 rfl (lv_at hl 1 rfl) ?_
                    refine va_get (D := (dC, dI)) (ci := 9) (v := Value.ref pb) (C := RX9) (T := TX9) (N := 14) hx hb hts inX9 hown hK hP 8 rfl rfl 5 (by decide) (hts _ (gw kw_160 rfl)) (fun _ h9 => h9) rfl dX9_buyCheapest_128 ?_
                    refine lv_iload_n hx hb dX9_buyCheapest_131 rfl (lv_at hl 2 rfl) ?_
                    refine lv_dup2_11 hx hb dX9_buyCheapest_132 rfl rfl ?_
                    have h_30 : vp_in (nI i) 8 := by first | exact vp_in_nI (by omega) (by omega) | (unfold vp_in; decide) | (subst_vars; first | (unfold vp_in; decide) | exact vp_in_nI (by omega) (by omega))
                    refine va_iald hx hb hK hP 2 0 rfl rfl h_30 dX9_buyCheapest_133 ?_
                    refine lv_topi (fun x_31 e_31 => ?_)
                    refine lv_iconst (v := 1) hx hb dX9_buyCheapest_134 (by decide) ?_
                    refine lv_iload hx hb dX9_buyCheapest_135 (lv_at hl 0 rfl) ?_
                    refine lv_ishl hx hb dX9_buyCheapest_137 ?_
                    refine lv_topi (fun x_32 e_32 => ?_)
                    refine lv_ior hx hb dX9_buyCheapest_138 ?_
                    refine lv_topi (fun x_33 e_33 => ?_)
                    have h_34 : vp_in (nI i) 8 := by first | exact vp_in_nI (by omega) (by omega) | (unfold vp_in; decide) | (subst_vars; first | (unfold vp_in; decide) | exact vp_in_nI (by omega) (by omega))
                    refine va_iast hx hb hK hP hD hS 2 0 rfl rfl h_34 dX9_buyCheapest_139 (fun H locs hP hD hS => ?_)
                    obtain ⟨f_35, e_f_35⟩ : ∃ y : Nat → Int32, y = upd bc (nI i : Int32).toNatClampNeg x_33 := ⟨_, rfl⟩
                    have hpd9 : PDx (dC, dI) classes A H (wp [cA aC pp 8 fp, cA aC po 8 fo, cI aC pb 8 f_35, cI aC ew 8 wf, cI aC pu 7 uc, cI aC pw 7 vc, cI aC pq 128 u_6, cI aC pt 128 u_7, oX9 h1 po pp ps pa pe pb pv pk pu pw pq pt (nI (n - 1 - i)) (nI (sumr (frf (stf 3) n i Pq W0) 0 (n - 1 - i))), oX4 pv ek ef ew ep es (nI n) sy dn, cI aC es 5 stf] (va_pl L (plE aC gc))) := by rw [e_f_35]; exact ⟨hP, hD⟩
                    have hP := hpd9.1
                    have hD := hpd9.2
                    clear hpd9
                    refine lv_aload_n hx hb dX9_buyCheapest_140 rfl (lv_at hl 1 rfl) ?_
                    refine va_get (D := (dC, dI)) (ci := 9) (v := Value.ref po) (C := RX9) (T := TX9) (N := 14) hx hb hts inX9 hown hK hP 8 rfl rfl 0 (by decide) (hts _ (gw kw_150 rfl)) (fun _ h9 => h9) rfl dX9_buyCheapest_141 ?_
                    refine lv_iload_n hx hb dX9_buyCheapest_144 rfl (lv_at hl 2 rfl) ?_
                    have h_36 : vp_in (nI i) 8 := by first | exact vp_in_nI (by omega) (by omega) | (unfold vp_in; decide) | (subst_vars; first | (unfold vp_in; decide) | exact vp_in_nI (by omega) (by omega))
                    refine va_alda (r := ro i) hx hb hK hP 1 rfl h_36 (by rw [nI_clamp (by omega)]; exact (hgr.1 i (by omega)).1.1) dX9_buyCheapest_145 ?_
                    refine lv_iload hx hb dX9_buyCheapest_146 (lv_at hl 0 rfl) ?_
                    refine lv_aload_n hx hb dX9_buyCheapest_148 rfl (lv_at hl 1 rfl) ?_
                    refine va_get (D := (dC, dI)) (ci := 9) (v := Value.ref pu) (C := RX9) (T := TX9) (N := 14) hx hb hts inX9 hown hK hP 8 rfl rfl 8 (by decide) (hts _ (gw kw_165 rfl)) (fun _ h9 => h9) rfl dX9_buyCheapest_149 ?_
                    refine lv_iload hx hb dX9_buyCheapest_152 (lv_at hl 4 rfl) ?_
                    have h_37 : vp_in (nI u) 7 := by first | exact vp_in_nI (by omega) (by omega) | (unfold vp_in; decide) | (subst_vars; first | (unfold vp_in; decide) | exact vp_in_nI (by omega) (by omega))
                    refine va_iald hx hb hK hP 4 0 rfl rfl h_37 dX9_buyCheapest_154 ?_
                    refine lv_topi (fun x_38 e_38 => ?_)
                    have h9 : x_38 = nI (Pq (mu (stf 3) n i u)) := by rw [e_38, nI_clamp (by omega)]; exact (hv1 u (by omega)).1
                    subst h9
                    have h_39 : vp_in (nI (mu (stf 3) n i u)) 8 := by first | exact vp_in_nI (by omega) (by omega) | (unfold vp_in; decide) | (subst_vars; first | (unfold vp_in; decide) | exact vp_in_nI (by omega) (by omega))
                    refine pl_iast hx hb hK hP hD hS ((hgr.1 i (by omega)).1.2) h_39 dX9_buyCheapest_155 (fun H locs hP hD hS => ?_)
                    obtain ⟨g_40, e_g_40⟩ : ∃ y : Nat → Nat → Int32, y = va_up gc (ro i) (upd (gc (ro i)) (nI (mu (stf 3) n i u) : Int32).toNatClampNeg (nI (Pq (mu (stf 3) n i u)))) := ⟨_, rfl⟩
                    have hpd9 : PDx (dC, dI) classes A H (wp [cA aC pp 8 fp, cA aC po 8 fo, cI aC pb 8 f_35, cI aC ew 8 wf, cI aC pu 7 uc, cI aC pw 7 vc, cI aC pq 128 u_6, cI aC pt 128 u_7, oX9 h1 po pp ps pa pe pb pv pk pu pw pq pt (nI (n - 1 - i)) (nI (sumr (frf (stf 3) n i Pq W0) 0 (n - 1 - i))), oX4 pv ek ef ew ep es (nI n) sy dn, cI aC es 5 stf] (va_pl L (plE aC g_40))) := by rw [e_g_40]; exact ⟨hP, hD⟩
                    have hP := hpd9.1
                    have hD := hpd9.2
                    clear hpd9
                    have hbt : b.testBit u = true := by
                      rw [← b_get (by omega) (by omega)]
                      exact (b_tst (by omega)).mp (by rw [← e_25, ← e_26]; exact c_27)
                    have hn1 : ∀ q, q < 32 → bt (f_35 i) q = mb (stf 3) n i b (u + 1) q := fun q hq => by
                      rw [e_f_35, nI_clamp (by omega), pk_us, e_33, e_32, b_or, e_31, nI_clamp (by omega), hbc q hq, b_one _ (by omega) q hq, mb_s, hbt, Bool.true_and]
                      congr 1
                      exact decide_eq_decide.mpr ⟨fun h => h.symm, fun h => h.symm⟩
                    have hn2 : ∀ q, q < 8 → g_40 (ro i) q = nI (if mb (stf 3) n i b (u + 1) q = true then Pq q else O q) := fun q hq => by
                      rw [e_g_40, nI_clamp (by omega), up_s, mb_s, hbt, Bool.true_and]
                      by_cases e : q = mu (stf 3) n i u
                      · rw [e, pk_us, decide_eq_true (p := mu (stf 3) n i u = mu (stf 3) n i u) rfl, Bool.or_true, if_pos rfl]
                      · rw [pk_un e, decide_eq_false (fun h => e h.symm), Bool.or_false]; exact hgc q hq
                    have hn3 : ∀ q, q ≠ i → f_35 q = bf q := fun q h => by rw [e_f_35, nI_clamp (by omega), pk_un h]; exact hbf q h
                    have hn4 : ∀ a, a ≠ ro i → g_40 a = g a := fun a h => by rw [e_g_40, up_n h]; exact hgf a h
                    obtain ⟨x_41, e_41⟩ : ∃ y : Int32, y = (nI u) + 1 := ⟨_, rfl⟩
                    refine lv_iinc (v := x_41) (lv' := [(4, Value.int x_41), (5, Value.int (nI (mu (stf 3) n i u))), (0, Value.ref h1), (1, Value.int (nI i)), (3, Value.int (nI b))]) hx hb dX9_buyCheapest_156 hl (k := 4) rfl (by rw [e_41]; rfl) (by decide) rfl (fun ls hl => ?_)
                    have h9 : x_41 = nI (u + 1) := by rw [e_41, nI_1]
                    subst h9
                    refine lv_goto (tgt := 99) hx hb dX9_buyCheapest_159 (by decide) ?_
                    exact ih_99 (u + 1) f_35 g_40 (by omega) (by omega) (hn1) (hn2) (hn3) (hn4) _ _ _ (plP hP [0, 1, 2, 8, 9, 3, 10, 4, 5, 6, 7] rfl) (plD hD [0, 1, 2, 8, 9, 3, 10, 4, 5, 6, 7] (by decide) rfl) hS (lv_sub hl [2, 3, 4, 0] rfl)
            exact lp_99 ((n - 1 - i - 0) + 1) 0 f_15 g (Nat.lt_succ_self _) (Nat.zero_le _) (fun q hq => by rw [e_f_15, nI_clamp (by omega), pk_us, b_0]; rfl) (fun q hq => by rw [hO q hq]; rfl) (fun q h => by rw [e_f_15, nI_clamp (by omega), pk_un h]) (fun a _ => rfl) _ _ _ (plP hP [0, 1, 2, 3, 4, 5, 6, 7, 8, 9, 10] rfl) (plD hD [0, 1, 2, 3, 4, 5, 6, 7, 8, 9, 10] (by decide) rfl) hS (lv_sub hl [2, 3, 1, 0] rfl)
          · have hpd9 := pd_P (cx := [oX9 h1 po pp ps pa pe pb pv pk pu pw pq pt (nI (n - 1 - i)) (nI (sumr (frf (stf 3) n i Pq W0) 0 (n - 1 - i))), oX4 pv ek ef ew ep es (nI n) sy dn, cI aC ew 8 wf, cI aC es 5 stf, cA aC pp 8 fp, cA aC po 8 fo, cI aC pb 8 bf, cI aC pu 7 uc, cI aC pw 7 vc, cI aC pq 128 u_6, cI aC pt 128 u_7]) hP hD [3, 4, 5, 6, 0, 1, 2, 7, 8, 9, 10] (by decide) rfl
            have hP9 := hpd9.1
            have hD9 := hpd9.2
            refine W.widen (k := 0) (n := 0) (by omega) (by omega) ?_
            exact W.vret hx hb hr (fun t ht hW => ⟨⟨((nI (n - 1 - i)), (nI (sumr (frf (stf 3) n i Pq W0) 0 (n - 1 - i))), uc, vc, u_6, u_7, bf, g, (nI b)), rfl, ⟨Or.inr ⟨b, hb1, rfl, hb3, hb4⟩, fun b' q1 q2 q3 => (bc_none (ct := cst (fun u => Pq (mu (stf 3) n i u))) (N := 2 ^ (n - 1 - i)) (cq := cq) (by omega) (Or.inr ⟨b, hb1, rfl, by rcases Nat.lt_or_ge cq (cst (fun u => Pq (mu (stf 3) n i u)) b) with q | q <;> first | exact q | exact absurd ((nI_leI (by omega) (by omega)).mpr q) c_13⟩) q1 q2 q3).elim, fun _ => ⟨rfl, fun q hq => rfl⟩, fun q _ => rfl, fun a _ => rfl⟩, by rw [ht]; exact hP9, va_K.moved hW.alike hK, hD9⟩, hS.F ht⟩) hS.2.2 dX9_buyCheapest_88
      · have hlu : u < n - 1 - i := by
          rcases Nat.lt_or_ge u (n - 1 - i) with q | q
          · exact q
          · exact absurd (nI_le q (by omega)) c_4
        have hmu := mu_in (fst := stf 3) (n := n) (i := i) (u := u) (by omega)
        obtain ⟨hp1, hp2⟩ := hPq _ hmu.1 hmu.2
        obtain ⟨hw1, hw2⟩ := hw.2 _ hmu.2
        refine lv_aload_n hx hb dX9_buyCheapest_23 rfl (lv_at hl 0 rfl) ?_
        refine lv_iload_n hx hb dX9_buyCheapest_24 rfl (lv_at hl 1 rfl) ?_
        refine lv_iload_n hx hb dX9_buyCheapest_25 rfl (lv_at hl 3 rfl) ?_
        have hpd9 := pdf_N (cx := [oX9 h1 po pp ps pa pe pb pv pk pu pw pq pt (nI u) (nI (sumr (frf (stf 3) n i Pq W0) 0 u)), oX4 pv ek ef ew ep es (nI n) sy dn, cI aC es 5 stf]) hP hD hS hA [10, 0, 2] (by decide) rfl
        have hPc := hpd9.1
        have hDc := hpd9.2.1
        have hFc := hpd9.2.2
        clear hpd9
        refine va_calli (va_runV (As := [Value.int (nI i), Value.int (nI u)]) (rest := []) ⟨hx, hb, hml, hown, hts⟩ (c_X9_manOfUnit l dC dI aC H.size h1 po pp ps pa pe pb pv pk pu pw pq pt (nI u) (nI (sumr (frf (stf 3) n i Pq W0) 0 u)) ek ef ew ep es n sy dn stf i u (by omega)) ⟨(callB_of 2 hts (gG kw_449) rfl rfl rfl (hts _ (gw kw_11 rfl)) (hts _ (gw kw_446 rfl)) hd_X9_manOfUnit ⟨Nat.le_of_ble_eq_true rfl, Nat.le_of_ble_eq_true rfl⟩), (hts _ (gw kw_448 rfl)), (hts _ (gw ks_12 rfl))⟩ ⟨fb_std, va_recv (q := (RX9, TX9, 14)) hK hPc (ci := 9) (q0 := 0) rfl rfl, pre_std hPc hK hDc hN⟩ rfl rfl hl.1 rfl (lv_room (Nat.le_of_ble_eq_true rfl)) dX9_buyCheapest_26 ⟨Nat.le_of_ble_eq_true rfl, Nat.le_of_ble_eq_true rfl⟩) hS (fun q _ h => hFc q h) hFc (fun x_42 u9 t9 H1 locs ht hvm hw_42 hB hz1 hk1 hS => ?_)
        obtain ⟨hP1, hK1, hD1⟩ := hB
        rw [ht] at hP1
        clear hK1
        try dsimp only at hw_42
        have hpd9 : PDx (dC, dI) classes A H1 (wp [cI aC ew 8 wf, cA aC pp 8 fp, cA aC po 8 fo, cI aC pb 8 bf, cI aC pu 7 uc, cI aC pw 7 vc, cI aC pq 128 qf, cI aC pt 128 tf, oX9 h1 po pp ps pa pe pb pv pk pu pw pq pt (nI u) (nI (sumr (frf (stf 3) n i Pq W0) 0 u)), oX4 pv ek ef ew ep es (nI n) sy dn, cI aC es 5 stf] (va_pl L (plE aC g))) := jn_Q (wr := [cI aC ew 8 wf, cA aC pp 8 fp, cA aC po 8 fo, cI aC pb 8 bf, cI aC pu 7 uc, cI aC pw 7 vc, cI aC pq 128 qf, cI aC pt 128 tf]) hFc hk1 hP1 hD1 hP hD [10, 0, 2] [1, 3, 4, 5, 6, 7, 8, 9] rfl rfl (by decide) (by decide)
        have hP := hpd9.1
        have hD := hpd9.2
        clear hpd9
        generalize H1 = H at hP hS ⊢
        clear hPc hDc hFc hz1 hk1 hP1 hD1 ht hvm
        have h9 : x_42 = nI (mu (stf 3) n i u) := hw_42
        subst h9
        refine lv_istore (lv' := [(4, Value.int (nI (mu (stf 3) n i u))), (0, Value.ref h1), (1, Value.int (nI i)), (2, Value.int (nI (n - 1 - i))), (3, Value.int (nI u))]) hx hb dX9_buyCheapest_29 hl (by decide) rfl (fun ls hl => ?_)
        refine lv_aload_n hx hb dX9_buyCheapest_31 rfl (lv_at hl 1 rfl) ?_
        refine lv_aload_n hx hb dX9_buyCheapest_32 rfl (lv_at hl 1 rfl) ?_
        refine va_get (D := (dC, dI)) (ci := 9) (v := Value.ref pp) (C := RX9) (T := TX9) (N := 14) hx hb hts inX9 hown hK hP 8 rfl rfl 1 (by decide) (hts _ (gw kw_152 rfl)) (fun _ h9 => h9) rfl dX9_buyCheapest_33 ?_
        refine lv_iload_n hx hb dX9_buyCheapest_36 rfl (lv_at hl 2 rfl) ?_
        have h_43 : vp_in (nI i) 8 := by first | exact vp_in_nI (by omega) (by omega) | (unfold vp_in; decide) | (subst_vars; first | (unfold vp_in; decide) | exact vp_in_nI (by omega) (by omega))
        refine va_alda (r := rp i) hx hb hK hP 1 rfl h_43 (by rw [nI_clamp (by omega)]; exact (hgr.1 i (by omega)).2.1.1) dX9_buyCheapest_37 ?_
        refine lv_iload hx hb dX9_buyCheapest_38 (lv_at hl 0 rfl) ?_
        have h_44 : vp_in (nI (mu (stf 3) n i u)) 8 := by first | exact vp_in_nI (by omega) (by omega) | (unfold vp_in; decide) | (subst_vars; first | (unfold vp_in; decide) | exact vp_in_nI (by omega) (by omega))
        refine pl_iald hx hb hK hP ((hgr.1 i (by omega)).2.1.2) h_44 dX9_buyCheapest_40 ?_
        refine lv_topi (fun x_45 e_45 => ?_)
        have h9 : x_45 = nI (Pq (mu (stf 3) n i u)) := by rw [e_45, nI_clamp (by omega)]; exact hp1
        subst h9
        refine lv_aload_n hx hb dX9_buyCheapest_41 rfl (lv_at hl 1 rfl) ?_
        refine va_get (D := (dC, dI)) (ci := 9) (v := Value.ref pv) (C := RX9) (T := TX9) (N := 14) hx hb hts inX9 hown hK hP 8 rfl rfl 6 (by decide) (hts _ (gw kw_162 rfl)) (fun _ h9 => h9) rfl dX9_buyCheapest_42 ?_
        refine va_get (D := (dC, dI)) (ci := 4) (v := Value.ref ew) (C := RX4) (T := TX4) (N := 8) hx hb hts inX4 hown hK hP 9 rfl rfl 2 (by decide) (hts _ (gw kw_40 rfl)) (fun _ h9 => h9) rfl dX9_buyCheapest_45 ?_
        refine lv_iload hx hb dX9_buyCheapest_48 (lv_at hl 0 rfl) ?_
        have h_46 : vp_in (nI (mu (stf 3) n i u)) 8 := by first | exact vp_in_nI (by omega) (by omega) | (unfold vp_in; decide) | (subst_vars; first | (unfold vp_in; decide) | exact vp_in_nI (by omega) (by omega))
        refine va_iald hx hb hK hP 0 0 rfl rfl h_46 dX9_buyCheapest_50 ?_
        refine lv_topi (fun x_47 e_47 => ?_)
        have h9 : x_47 = nI (W0 (mu (stf 3) n i u)) := by rw [e_47, nI_clamp (by omega)]; exact hw1
        subst h9
        have hpd9 := pdf_N (cx := [oX9 h1 po pp ps pa pe pb pv pk pu pw pq pt (nI u) (nI (sumr (frf (stf 3) n i Pq W0) 0 u)), cI aC pu 7 uc, cI aC pw 7 vc]) hP hD hS hA [8, 4, 5] (by decide) rfl
        have hPc := hpd9.1
        have hDc := hpd9.2.1
        have hFc := hpd9.2.2
        clear hpd9
        refine va_callv (va_runV (As := [Value.int (nI (Pq (mu (stf 3) n i u))), Value.int (nI (W0 (mu (stf 3) n i u)))]) (rest := []) ⟨hx, hb, hml, hown, hts⟩ (c_X9_addUnit l dC dI aC H.size h1 po pp ps pa pe pb pv pk pu pw pq pt u (sumr (frf (stf 3) n i Pq W0) 0 u) (Pq (mu (stf 3) n i u)) (W0 (mu (stf 3) n i u)) uc vc (by omega) (by omega) (by omega)) ⟨(callB_of 2 hts (gG kw_453) rfl rfl rfl (hts _ (gw kw_11 rfl)) (hts _ (gw kw_450 rfl)) hd_X9_addUnit ⟨Nat.le_of_ble_eq_true rfl, Nat.le_of_ble_eq_true rfl⟩), (hts _ (gw kw_452 rfl)), (hts _ (gw ks_13 rfl))⟩ ⟨fb_std, va_recv (q := (RX9, TX9, 14)) hK hPc (ci := 9) (q0 := 0) rfl rfl, pre_std hPc hK hDc hN⟩ rfl rfl hl.1 rfl (lv_room (Nat.le_of_ble_eq_true rfl)) dX9_buyCheapest_51 ⟨Nat.le_of_ble_eq_true rfl, Nat.le_of_ble_eq_true rfl⟩) hS (fun q _ h => hFc q h) hFc (fun u9 t9 H1 locs ht hvm hw_48 hB hz1 hk1 hS => ?_)
        obtain ⟨u_49, u_50⟩ := u9
        obtain ⟨hP1, hK1, hD1⟩ := hB
        rw [ht] at hP1
        clear hK1
        try dsimp only at hw_48
        have hpd9 : PDx (dC, dI) classes A H1 (wp [cI aC ew 8 wf, cA aC pp 8 fp, cA aC po 8 fo, cI aC pb 8 bf, cI aC pq 128 qf, cI aC pt 128 tf, oX4 pv ek ef ew ep es (nI n) sy dn, cI aC es 5 stf, oX9 h1 po pp ps pa pe pb pv pk pu pw pq pt (nI (u + 1)) (nI ((sumr (frf (stf 3) n i Pq W0) 0 u) + (if 0 < (Pq (mu (stf 3) n i u)) then 0 else (W0 (mu (stf 3) n i u))))), cI aC pu 7 u_49, cI aC pw 7 u_50] (va_pl L (plE aC g))) := jn_Q (wr := [cI aC ew 8 wf, cA aC pp 8 fp, cA aC po 8 fo, cI aC pb 8 bf, cI aC pq 128 qf, cI aC pt 128 tf, oX4 pv ek ef ew ep es (nI n) sy dn, cI aC es 5 stf]) hFc hk1 hP1 hD1 hP hD [8, 4, 5] [0, 1, 2, 3, 6, 7, 9, 10] rfl rfl (by decide) (by decide)
        have hP := hpd9.1
        have hD := hpd9.2
        clear hpd9
        generalize H1 = H at hP hS ⊢
        clear hPc hDc hFc hz1 hk1 hP1 hD1 ht hvm
        obtain ⟨ha1, ha2, ha3, ha4⟩ := hw_48
        have hb1 : ∀ v, v < u + 1 → u_49 v = nI (Pq (mu (stf 3) n i v)) ∧ u_50 v = nI (uwf (stf 3) n i Pq W0 v) := fun v hv => by
          by_cases e : v = u
          · rw [e, ha1, ha3]; exact ⟨rfl, rfl⟩
          · rw [ha2 v e, ha4 v e]; exact hv1 v (by omega)
        have h9 : nI ((sumr (frf (stf 3) n i Pq W0) 0 u) + (if 0 < (Pq (mu (stf 3) n i u)) then 0 else (W0 (mu (stf 3) n i u)))) = nI (sumr (frf (stf 3) n i Pq W0) 0 (u + 1)) := by show _ = nI (sumr (frf (stf 3) n i Pq W0) 0 u + frf (stf 3) n i Pq W0 (0 + u)); rw [Nat.zero_add]; rfl
        rw [h9] at hP hD
        obtain ⟨x_51, e_51⟩ : ∃ y : Int32, y = (nI u) + 1 := ⟨_, rfl⟩
        refine lv_iinc (v := x_51) (lv' := [(3, Value.int x_51), (4, Value.int (nI (mu (stf 3) n i u))), (0, Value.ref h1), (1, Value.int (nI i)), (2, Value.int (nI (n - 1 - i)))]) hx hb dX9_buyCheapest_54 hl (k := 4) rfl (by rw [e_51]; rfl) (by decide) rfl (fun ls hl => ?_)
        have h9 : x_51 = nI (u + 1) := by rw [e_51, nI_1]
        subst h9
        refine lv_goto (tgt := 18) hx hb dX9_buyCheapest_57 (by decide) ?_
        exact ih_18 (u + 1) u_49 u_50 (by omega) (by omega) (hb1) _ _ _ (plP hP [6, 0, 7, 1, 2, 3, 9, 10, 4, 5, 8] rfl) (plD hD [6, 0, 7, 1, 2, 3, 9, 10, 4, 5, 8] (by decide) rfl) hS (lv_sub hl [2, 3, 4, 0] rfl)
  exact lp_18 ((n - 1 - i - 0) + 1) 0 uf vf (Nat.lt_succ_self _) (Nat.zero_le _) (fun v h => by omega) _ _ _ (plP hP [0, 1, 2, 3, 4, 5, 6, 7, 8, 9, 10] rfl) (plD hD [0, 1, 2, 3, 4, 5, 6, 7, 8, 9, 10] (by decide) rfl) hS (lv_sub hl [2, 3, 1, 0] rfl)
