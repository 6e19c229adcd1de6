section
/-! 67.xtr -/
theorem dr_and (s : Int32) : ∃ m, m < 2 ^ 31 ∧ s &&& 2147483647 = nI m := by
  refine ⟨(s.toBitVec &&& 2147483647#32).toNat, ?_, ?_⟩
  · rw [BitVec.toNat_and]
    exact Nat.lt_of_le_of_lt Nat.and_le_right (by decide)
  · apply Int32.toBitVec_inj.mp
    show s.toBitVec &&& 2147483647#32 = BitVec.ofNat 32 _
    rw [BitVec.ofNat_toNat, BitVec.setWidth_eq]
theorem pk_mod {a d : Nat} (ha : a < 2 ^ 31) (hd : 0 < d) (hd2 : d < 2 ^ 31) : nI a - nI a / nI d * nI d = nI (a % d) := by
  rw [pk_div ha hd hd2, pk_mul, pk_sub (Nat.div_mul_le_self a d)]
  congr 1
  have := Nat.div_add_mod a d
  rw [Nat.mul_comm] at this
  omega
/-- two men's places are changed -/
def swq (a b q : Nat) : Nat := if q = a then b else if q = b then a else q
theorem swq_lt {a b q n : Nat} (ha : a < n) (hb : b < n) (hq : q < n) : swq a b q < n := by
  unfold swq
  split
  · exact hb
  · split
    · exact ha
    · exact hq
abbrev SWK (n sn : Nat) (dn i j : Int32) : Prop := OKI n i ∧ OKI n j ∧ ¬ i = j ∧ ¬ OVR n dn ∧ sn = 0
def rSwp (n sn : Nat) (dn i j : Int32) : Int32 := if OKI n i ∧ OKI n j ∧ ¬ i = j then (if OVR n dn ∨ 0 < sn then -3 else 1) else -1
theorem SW_or {n a b q : Nat} {f : Nat → Int32} (h : ∀ q, q < n → f q = nI q) (hq : q < n) : upd (upd f a (nI b)) b (nI a) q = nI (swq a b q) := by
  unfold swq
  by_cases e : q = b
  · subst e
    rw [pk_us]
    by_cases e2 : q = a
    · subst e2; rw [if_pos rfl]
    · rw [if_neg e2, if_pos rfl]
  · rw [pk_un e]
    by_cases e2 : q = a
    · subst e2; rw [pk_us, if_pos rfl]
    · rw [pk_un e2, if_neg e2, if_neg e]; exact h q hq
theorem EVS_cg {n sn : Nat} {dn : Int32} {K F W K2 F2 W2 S5 : Nat → Nat} {kf ff wf stf : Nat → Int32} (h : EVS n sn dn K F W S5 kf ff wf stf) (h1 : ∀ j, j < n → K2 j = K j) (h2 : ∀ j, j < n → F2 j = F j) (h3 : ∀ j, j < n → W2 j = W j) : EVS n sn dn K2 F2 W2 S5 kf ff wf stf := by
  obtain ⟨⟨e1, e2, e3, e4⟩, r⟩ := h
  exact ⟨⟨e1, e2, e3, fun j hj => by rw [h1 j hj, h2 j hj, h3 j hj]; exact e4 j hj⟩, r⟩
theorem sg_sw {n a b q : Nat} {orf : Nat → Int32} (hn : n ≤ 8) (ha : a < n) (hb : b < n) (ho : ∀ q, q < n → orf q = nI (swq a b q)) (hq : q < n) : sg n orf q = swq a b q := by
  have h := swq_lt ha hb hq
  rw [sg_y (by rw [ho q hq]; exact OKI_nI hn h), ho q hq, nI_clamp (by omega)]
theorem SW_ev {n sn a b : Nat} {dn : Int32} {K F W S5 : Nat → Nat} {kf ff wf pf stf tk tf tw tp ts k2 f2 w2 p2 s2 orf : Nat → Int32} (h : EVS n sn dn K F W S5 kf ff wf stf) (hn : n ≤ 8) (ha : a < n) (hb : b < n) (ho : ∀ q, q < n → orf q = nI (swq a b q))
    (hc : (∀ q, q < 8 → tk q = if q < n then kf (sg n orf q) else kf q) ∧ (∀ q, q < 8 → tf q = if q < n then ff (sg n orf q) else ff q) ∧ (∀ q, q < 8 → tw q = if q < n then wf (sg n orf q) else wf q) ∧ (∀ j, j < 8 → tp j = pf j) ∧ (∀ j, j < 5 → ts j = stf j))
    (hd : (∀ j, j < 8 → k2 j = tk j) ∧ (∀ j, j < 8 → f2 j = tf j) ∧ (∀ j, j < 8 → w2 j = tw j) ∧ (∀ j, j < 8 → p2 j = tp j) ∧ (∀ j, j < 5 → s2 j = ts j)) :
    EVS n sn dn (fun q => K (swq (nI a).toNatClampNeg (nI b).toNatClampNeg q)) (fun q => F (swq (nI a).toNatClampNeg (nI b).toNatClampNeg q)) (fun q => W (swq (nI a).toNatClampNeg (nI b).toNatClampNeg q)) S5 k2 f2 w2 s2 := by
  rw [nI_clamp (by omega), nI_clamp (by omega)]
  refine EVS_cg (EVS_cp (EVS_seat h hc.1 hc.2.1 hc.2.2.1 hc.2.2.2.2) hd.1 hd.2.1 hd.2.2.1 hd.2.2.2.2) (fun j hj => ?_) (fun j hj => ?_) (fun j hj => ?_)
  · show K (swq a b j) = K (sg n orf j)
    rw [sg_sw hn ha hb ho hj]
  · show F (swq a b j) = F (sg n orf j)
    rw [sg_sw hn ha hb ho hj]
  · show W (swq a b j) = W (sg n orf j)
    rw [sg_sw hn ha hb ho hj]
theorem SW_pf {A1 A2 A3 A5 B1 B2 B3 B5 : Prop} {p2 tp pf : Nat → Int32} (hc : A1 ∧ A2 ∧ A3 ∧ (∀ j, j < 8 → tp j = pf j) ∧ A5) (hd : B1 ∧ B2 ∧ B3 ∧ (∀ j, j < 8 → p2 j = tp j) ∧ B5) : ∀ k, k < 8 → p2 k = pf k := fun k hk => (hd.2.2.2.1 k hk).trans (hc.2.2.2.1 k hk)
theorem bo_up {m k q : Nat} (h : m ≤ k) : bo m k (swq k (k + 1) q) = bo m (k + 1) q := by
  unfold bo swq
  repeat' split
  all_goals omega
theorem bo_dn {m k q : Nat} (h : k ≤ m) (h1 : 1 ≤ k) : bo m k (swq k (k - 1) q) = bo m (k - 1) q := by
  unfold bo swq
  repeat' split
  all_goals omega
/-- the best place: the first of those with most -/
def bsf (V : Nat → Int32) : Nat → Nat × Int32
  | 0 => (0, -1)
  | p + 1 => if (bsf V p).2 < V p then (p, V p) else bsf V p
theorem bsf_n {V : Nat → Int32} {p : Nat} {x y : Int32} (hx : x = V p) (hy : y = (bsf V p).2) (h : x ≤ y) : bsf V (p + 1) = bsf V p := by
  subst hx; subst hy
  exact if_neg (Int32.not_lt.mpr h)
theorem bsf_y {V : Nat → Int32} {p : Nat} {x y : Int32} (hx : x = V p) (hy : y = (bsf V p).2) (h : ¬ x ≤ y) : bsf V (p + 1) = (p, V p) := by
  subst hx; subst hy
  exact if_pos (Int32.not_le.mp h)
theorem bsf_1 {V : Nat → Int32} (h : ¬ V 0 < -1) : bsf V 1 = (0, V 0) := by
  show (if (-1 : Int32) < V 0 then (0, V 0) else (0, -1)) = _
  by_cases e : (-1 : Int32) < V 0
  · rw [if_pos e]
  · rw [if_neg e, Int32.le_antisymm (Int32.not_lt.mp h) (Int32.not_lt.mp e)]
theorem bsf_1j {V : Nat → Int32} {j : Nat} (hj : j = 0) (h : ¬ V j < -1) : bsf V (j + 1) = (j, V j) := by
  subst hj
  exact bsf_1 h
noncomputable def bV (n : Nat) (K F W S5 : Nat → Nat) (m p : Nat) : Int32 := iI (zS (PO n (fun q => K (bo m p q)) (fun q => F (bo m p q)) (fun q => W (bo m p q)) S5) 0 p)
noncomputable def rBst (n : Nat) (K F W S5 : Nat → Nat) (i : Int32) : Int32 := if OKI n i then nI (bsf (bV n K F W S5 i.toNatClampNeg) n).1 else -1
theorem zS_m1 {n sn : Nat} {dn : Int32} {K F W S5 : Nat → Nat} {kf ff wf stf : Nat → Int32} (h : EVS n sn dn K F W S5 kf ff wf stf) {i q : Nat} (hi : i < n) : ¬ iI (zS (PO n K F W S5) i q) < -1 ∧ ¬ iI (zS (PO n K F W S5) i q) ≤ -2 := by
  obtain ⟨h1, h2⟩ := (PO_nI h i hi).2.2 q
  rw [show (-1 : Int32) = iI (-1) from rfl, show (-2 : Int32) = iI (-2) from rfl, iI_lt (by unfold sm; omega) (by unfold sm; omega), iI_le (by unfold sm; omega) (by unfold sm; omega)]
  omega
/-- evenings by seeds -/
def lcg (z : Int32) : Int32 := z * 1103515245 + 12345
def dq (z : Int32) (k : Nat) : Nat := (z &&& 2147483647).toNatClampNeg / 65536 % (k + 1)
theorem dq_lt {z : Int32} {k : Nat} : dq z k < k + 1 := Nat.mod_lt _ (Nat.succ_pos k)
def sdr : Nat → Int32 → (Nat → Nat) → Int32 × (Nat → Nat)
  | 0, z, s => (z, s)
  | k + 1, z, s => sdr k (lcg z) (fun q => s (swq (k + 1) (dq (lcg z) (k + 1)) q))
theorem sdr_s {k : Nat} {z : Int32} {s : Nat → Nat} (h : 1 ≤ k) : sdr k z s = sdr (k - 1) (lcg z) (fun q => s (swq k (dq (lcg z) k) q)) := by
  obtain ⟨j, rfl⟩ : ∃ j, k = j + 1 := ⟨k - 1, by omega⟩
  rfl
def sdz (n : Nat) (z : Int32) : Int32 := (sdr (n - 1) z (fun q => q)).1
def sds (n : Nat) (z : Int32) : Nat → Nat := (sdr (n - 1) z (fun q => q)).2
def PRM (n : Nat) (s : Nat → Nat) : Prop := (∀ q, q < n → s q < n) ∧ ∀ p q, p < n → q < n → s p = s q → p = q
theorem PRM_id {n : Nat} : PRM n (fun q => q) := ⟨fun q hq => hq, fun p q _ _ h => h⟩
theorem swq_sw {a b q : Nat} : swq a b (swq a b q) = q := by
  unfold swq
  repeat' split
  all_goals omega
theorem swq_in {a b p q : Nat} (h : swq a b p = swq a b q) : p = q := by
  have := congrArg (swq a b) h
  rw [swq_sw, swq_sw] at this
  exact this
theorem swq_sm {a q : Nat} : swq a a q = q := by
  unfold swq
  repeat' split
  all_goals omega
theorem swq_a {a b : Nat} : swq a b a = b := if_pos rfl
theorem swq_b {a b : Nat} : swq a b b = a := by
  unfold swq
  repeat' split
  all_goals omega
theorem swq_n {a b q : Nat} (h1 : q ≠ a) (h2 : q ≠ b) : swq a b q = q := by
  unfold swq
  rw [if_neg h1, if_neg h2]
theorem PRM_sw {n a b : Nat} {s : Nat → Nat} (h : PRM n s) (ha : a < n) (hb : b < n) : PRM n (fun q => s (swq a b q)) :=
  ⟨fun q hq => h.1 _ (swq_lt ha hb hq), fun p q hp hq e => swq_in (h.2 _ _ (swq_lt ha hb hp) (swq_lt ha hb hq) e)⟩
theorem sdr_prm {n : Nat} : ∀ (k : Nat) (z : Int32) (s : Nat → Nat), k < n → PRM n s → PRM n (sdr k z s).2
  | 0, z, s, _, h => h
  | k + 1, z, s, hk, h => sdr_prm k (lcg z) _ (by omega) (PRM_sw h hk (by have := dq_lt (z := lcg z) (k := k + 1); omega))
theorem sds_prm {n : Nat} {z : Int32} (h : 0 < n) : PRM n (sds n z) := sdr_prm (n - 1) z _ (by omega) PRM_id
def plc (s : Nat → Nat) (m : Nat) : Nat → Nat
  | 0 => 0
  | j + 1 => if s j = m then j else plc s m j
theorem plc_lt {s : Nat → Nat} {m : Nat} : ∀ j, 0 < j → plc s m j < j
  | 0, h => absurd h (Nat.lt_irrefl 0)
  | j + 1, _ => by
    show (if s j = m then j else plc s m j) < j + 1
    split
    · omega
    · rcases Nat.eq_zero_or_pos j with e | e
      · subst e; exact Nat.zero_lt_one
      · have := plc_lt (s := s) (m := m) j e; omega
theorem plc_eq {n m x : Nat} {s : Nat → Nat} (h : PRM n s) (hx : x < n) (hs : s x = m) : ∀ j, j ≤ n → x < j → plc s m j = x
  | 0, _, h2 => absurd h2 (Nat.not_lt_zero x)
  | j + 1, h1, h2 => by
    show (if s j = m then j else plc s m j) = x
    by_cases e : s j = m
    · rw [if_pos e]; exact h.2 j x (by omega) hx (e.trans hs.symm)
    · rw [if_neg e]
      exact plc_eq h hx hs j (by omega) (by
        have : x ≠ j := fun q => e (by rw [← q]; exact hs)
        omega)
noncomputable def svl (n : Nat) (K F W S5 : Nat → Nat) (m : Nat) (z : Int32) : Int32 := nI (zS (PO n (fun q => K (sds n z q)) (fun q => F (sds n z q)) (fun q => W (sds n z q)) S5) 0 (plc (sds n z) m n)).toNat
noncomputable def sev (n : Nat) (K F W S5 : Nat → Nat) (m : Nat) (z : Int32) : Nat → Int32 × Int32
  | 0 => (z, 0)
  | k + 1 => (sdz n (sev n K F W S5 m z k).1, (sev n K F W S5 m z k).2 + svl n K F W S5 m (sev n K F W S5 m z k).1)
noncomputable def rSds (n : Nat) (K F W S5 : Nat → Nat) (i a z : Int32) : Int32 := if OKI n i then (if a < 1 then -4 else if 30 < a then -6 else (sev n K F W S5 i.toNatClampNeg z a.toNatClampNeg).2) else -1
theorem sw_o {o f1 f2 : Nat → Int32} {k d : Nat} {x y : Int32} (hx : x = o k) (hy : y = o d) (h1 : f1 = upd o k y) (h2 : f2 = upd f1 d x) : ∀ q, f2 q = o (swq k d q) := by
  intro q
  rw [h2]
  by_cases e : q = d
  · subst e; rw [pk_us, swq_b, hx]
  · rw [pk_un e, h1]
    by_cases e2 : q = k
    · subst e2; rw [pk_us, swq_a, hy]
    · rw [pk_un e2, swq_n e2 e]
theorem zS_sm {n sn : Nat} {dn : Int32} {K F W S5 : Nat → Nat} {kf ff wf stf : Nat → Int32} (h : EVS n sn dn K F W S5 kf ff wf stf) {i q : Nat} (hi : i < n) : sm (zS (PO n K F W S5) i q) := by
  obtain ⟨h1, h2⟩ := (PO_nI h i hi).2.2 q
  unfold sm; omega

set_option maxHeartbeats 1000000 in
set_option maxRecDepth 100000 in
/-- X11_drawOrder -/
theorem c_X11_drawOrder (l : Launch) (dC : Nat → ClassId) (dI : Nat → Nat → Nat) (aC : Nat → ClassId) (sz : Nat) (h0 : Nat) (xp : Nat) (xtp : Nat) (xn : Nat) (xt : Nat) (xk : Nat) (xl : Nat) (xc : Nat) (xo : Nat) (xto : Nat) (xr : Nat) (xch : Nat) (ts : Int32) (ik : Int32) (st : Int32) (ek : Nat) (ef : Nat) (ew : Nat) (ep : Nat) (es : Nat) (n : Nat) (sn : Nat) (dn : Int32) (orf : Nat → Int32) (z : Int32) (hn8 : n ≤ 8) : Met l yX11_drawOrder (wW yX11_drawOrder cX11_drawOrder 6 (some .int)) ({ frames := 1, cells := 0, slots := 0, locals := 21 } : Room) (va_Pc [Value.ref h0, Value.int z] (fun U => U.heap.size = sz ∧ va_P (dC, dI) classes [oX11 h0 xp xtp xn xt xk xl xc xo xto xr xch ts ik st, oX4 xn ek ef ew ep es (nI n) (nI sn) dn, cI aC xo 8 orf] U.heap ∧ va_K (dC, dI) classes (TY aC) U ∧ va_D (fun _ => True) [oX11 h0 xp xtp xn xt xk xl xc xo xto xr xch ts ik st, oX4 xn ek ef ew ep es (nI n) (nI sn) dn, cI aC xo 8 orf] ∧ NX U)) (va_Qi (fun (r : Int32) (org : Nat → Int32) => r = sdz n z ∧ ∀ q, q < n → org q = nI (sds n z q)) (fun (org : Nat → Int32) (t : State) => va_P (dC, dI) classes [oX11 h0 xp xtp xn xt xk xl xc xo xto xr xch ts ik st, oX4 xn ek ef ew ep es (nI n) (nI sn) dn, cI aC xo 8 org] t.heap ∧ va_K (dC, dI) classes (TY aC) t ∧ va_D (va_A [oX11 h0 xp xtp xn xt xk xl xc xo xto xr xch ts ik st, oX4 xn ek ef ew ep es (nI n) (nI sn) dn, cI aC xo 8 orf] sz) [oX11 h0 xp xtp xn xt xk xl xc xo xto xr xch ts ik st, oX4 xn ek ef ew ep es (nI n) (nI sn) dn, cI aC xo 8 org]) (va_A [oX11 h0 xp xtp xn xt xk xl xc xo xto xr xch ts ik st, oX4 xn ek ef ew ep es (nI n) (nI sn) dn, cI aC xo 8 orf] sz)) 0 0 (va_A [oX11 h0 xp xtp xn xt xk xl xc xo xto xr xch ts ik st, oX4 xn ek ef ew ep es (nI n) (nI sn) dn, cI aC xo 8 orf] sz) := by
  refine Met.ofW (cc := cX11_drawOrder) (maxL := 6) (ret := (some .int)) (by decide) rfl ?_
  intro p e s m args below meth c s₁ B hml hv
  obtain ⟨rfl, hsz, hP, hK, hD0, hN⟩ := hv
  have hx := B.exec
  have hb := B.bytes
  have hr := B.returns
  have hts0 := atoms_spec (ws := (wW yX11_drawOrder cX11_drawOrder 6 (some .int))) B.pre
  have hts : ∀ w9 ∈ lw_G, w9.before ([Value.ref h0, Value.int z] : List Value).toArray s = true := fun w9 h9 => hts0 w9 (List.mem_cons_of_mem _ h9)
  have hown : s.vm.findClass RX11 = some m.cls := findClass_of_methodNamed (x := yX11_drawOrder) B.named
  have hlocks := B.notSynchronized
  subst hsz
  have hD := hD0.self (sz := s.heap.size)
  generalize hAe : va_A [oX11 h0 xp xtp xn xt xk xl xc xo xto xr xch ts ik st, oX4 xn ek ef ew ep es (nI n) (nI sn) dn, cI aC xo 8 orf] s.heap.size = A at hD ⊢
  have hA : ∀ q : Nat, s.heap.size ≤ q → A q := fun q h => by rw [← hAe]; exact Or.inr h
  obtain ⟨H, hHe⟩ : ∃ H : Heap, H = s.heap := ⟨_, rfl⟩
  have hS : va_S A s.heap H [] := by rw [hHe]; exact va_S.rf
  have hP : va_P (dC, dI) classes [oX11 h0 xp xtp xn xt xk xl xc xo xto xr xch ts ik st, oX4 xn ek ef ew ep es (nI n) (nI sn) dn, cI aC xo 8 orf] H := by rw [hHe]; exact hP
  have hl := lv_entry ([Value.ref h0, Value.int z]) (n := 6) (Nat.le_of_ble_eq_true rfl)
  rw [lg_entry_eq]
  generalize (lg_sl ([Value.ref h0, Value.int z]) ++ List.replicate (6 - (lg_sl ([Value.ref h0, Value.int z])).length) Slot.unset).toArray = ls at hl ⊢
  have hl : lv_has ls 6 [(0, Value.ref h0), (1, Value.int z)] := hl
  rw [← hHe]
  refine lv_iload_n hx hb dX11_drawOrder_0 rfl (lv_at hl 1 rfl) ?_
  refine lv_istore_n (lv' := [(2, Value.int z), (0, Value.ref h0), (1, Value.int z)]) hx hb dX11_drawOrder_1 rfl hl (by decide) rfl (fun ls hl => ?_)
  refine lv_aload_n hx hb dX11_drawOrder_2 rfl (lv_at hl 1 rfl) ?_
  have hpd9 := pdf_N (cx := [oX11 h0 xp xtp xn xt xk xl xc xo xto xr xch ts ik st, oX4 xn ek ef ew ep es (nI n) (nI sn) dn, cI aC xo 8 orf]) hP hD hS hA [0, 1, 2] (by decide) rfl
  have hPc := hpd9.1
  have hDc := hpd9.2.1
  have hFc := hpd9.2.2
  clear hpd9
  refine va_callv (va_runV (As := []) (rest := []) ⟨hx, hb, hml, hown, hts⟩ (c_X11_orderAsIs l dC dI aC H.size h0 xp xtp xn xt xk xl xc xo xto xr xch ts ik st ek ef ew ep es n sn dn orf (hn8)) ⟨(callB_of 0 hts (gG kw_617) rfl rfl rfl (hts _ (gw kw_1 rfl)) (hts _ (gw kw_614 rfl)) hd_X11_orderAsIs ⟨Nat.le_of_ble_eq_true rfl, Nat.le_of_ble_eq_true rfl⟩), (hts _ (gw kw_616 rfl)), (hts _ (gw ks_26 rfl))⟩ ⟨fb_std, va_recv (q := (RX11, TX11, 14)) hK hPc (ci := 11) (q0 := 0) rfl rfl, pre_std hPc hK hDc hN⟩ rfl rfl hl.1 rfl (lv_room (Nat.le_of_ble_eq_true rfl)) dX11_drawOrder_3 ⟨Nat.le_of_ble_eq_true rfl, Nat.le_of_ble_eq_true rfl⟩) hS (fun q _ h => hFc q h) hFc (fun u9 t9 H1 locs ht hvm hw_1 hB hz1 hk1 hS => ?_)
  obtain ⟨u_2, rfl⟩ : ∃ z, z = u9 := ⟨_, rfl⟩
  obtain ⟨hP1, hK1, hD1⟩ := hB
  rw [ht] at hP1
  clear hK1
  try dsimp only at hw_1
  have hpd9 : PDx (dC, dI) classes A H1 [oX11 h0 xp xtp xn xt xk xl xc xo xto xr xch ts ik st, oX4 xn ek ef ew ep es (nI n) (nI sn) dn, cI aC xo 8 u_2] := jn_N (wr := []) hFc hk1 hP1 hD1 hP hD [0, 1, 2] [] rfl rfl (by decide) (by decide)
  have hP := hpd9.1
  have hD := hpd9.2
  clear hpd9
  generalize H1 = H at hP hS ⊢
  clear hPc hDc hFc hz1 hk1 hP1 hD1 ht hvm
  have hoa := hw_1
  refine lv_aload_n hx hb dX11_drawOrder_6 rfl (lv_at hl 1 rfl) ?_
  refine va_get (D := (dC, dI)) (ci := 11) (v := Value.ref xn) (C := RX11) (T := TX11) (N := 14) hx hb hts inX11 hown hK hP 0 rfl rfl 2 (by decide) (hts _ (gw kw_228 rfl)) (fun _ h9 => h9) rfl dX11_drawOrder_7 ?_
  refine va_get (D := (dC, dI)) (ci := 4) (v := Value.int (nI n)) (C := RX4) (T := TX4) (N := 8) hx hb hts inX4 hown hK hP 1 rfl rfl 5 (by decide) (hts _ (gw kw_50 rfl)) (fun _ h9 => h9) rfl dX11_drawOrder_10 ?_
  refine lv_iconst (v := 1) hx hb dX11_drawOrder_13 (by decide) ?_
  refine lv_isub hx hb dX11_drawOrder_14 ?_
  refine lv_topi (fun x_3 e_3 => ?_)
  refine lv_istore_n (lv' := [(3, Value.int x_3), (2, Value.int z), (0, Value.ref h0), (1, Value.int z)]) hx hb dX11_drawOrder_15 rfl hl (by decide) rfl (fun ls hl => ?_)
  have lp_16 : ∀ (fu : Nat) (kk : Nat) (x2 : Int32) (x3 : Int32) (oc : Nat → Int32) (s9 : Nat → Nat) (hfu : kk < fu) (hk : kk ≤ n) (hx3 : x3 = iI ((kk : Int) - 1)) (hsd : sdr (n - 1) z (fun q => q) = sdr (kk - 1) x2 s9) (ho : ∀ q, q < n → oc q = nI (s9 q)) (hpr : PRM n s9) (H : Heap) (locs : List Loc) (ls : Array Slot), va_P (dC, dI) classes [oX11 h0 xp xtp xn xt xk xl xc xo xto xr xch ts ik st, oX4 xn ek ef ew ep es (nI n) (nI sn) dn, cI aC xo 8 oc] H → va_D A [oX11 h0 xp xtp xn xt xk xl xc xo xto xr xch ts ik st, oX4 xn ek ef ew ep es (nI n) (nI sn) dn, cI aC xo 8 oc] → va_S A s.heap H locs → lv_has ls 6 [(0, Value.ref h0), (1, Value.int z), (2, Value.int x2), (3, Value.int x3)] → W p l e (headSpec (wW yX11_drawOrder cX11_drawOrder 6 (some .int)) ({ frames := 1, cells := 0, slots := 0, locals := 21 } : Room)).room s m ([Value.ref h0, Value.int z] : List Value).toArray below meth c H locs 0 0 (MQ below (va_Qi (fun (r : Int32) (org : Nat → Int32) => r = sdz n z ∧ ∀ q, q < n → org q = nI (sds n z q)) (fun (org : Nat → Int32) (t : State) => va_P (dC, dI) classes [oX11 h0 xp xtp xn xt xk xl xc xo xto xr xch ts ik st, oX4 xn ek ef ew ep es (nI n) (nI sn) dn, cI aC xo 8 org] t.heap ∧ va_K (dC, dI) classes (TY aC) t ∧ va_D A [oX11 h0 xp xtp xn xt xk xl xc xo xto xr xch ts ik st, oX4 xn ek ef ew ep es (nI n) (nI sn) dn, cI aC xo 8 org]) A) ([Value.ref h0, Value.int z] : List Value).toArray s 0 0 A) (F0 m 16 ls []) := by
    intro fu
    induction fu with
    | zero => intro kk x2 x3 oc s9 hfu; exact absurd hfu (Nat.not_lt_zero _)
    | succ fu ih_16 =>
      intro kk x2 x3 oc s9 hfu hk hx3 hsd ho hpr H locs ls hP hD hS hl
      refine lv_iload_n hx hb dX11_drawOrder_16 rfl (lv_at hl 3 rfl) ?_
      refine lv_iconst (v := 1) hx hb dX11_drawOrder_17 (by decide) ?_
      refine lv_icmp_lt (tgt := 82) hx hb dX11_drawOrder_18 (by decide) (fun c_4 => ?_) (fun c_4 => ?_)
      · have hk0 : kk - 1 = 0 := by
          have h8 := c_4
          rw [hx3, ← iI_1, iI_lt (by unfold sm; omega) (by unfold sm; omega)] at h8
          omega
        rw [hk0] at hsd
        refine lv_iload_n hx hb dX11_drawOrder_82 rfl (lv_at hl 2 rfl) ?_
        have hpd9 := pd_N (cx := [oX11 h0 xp xtp xn xt xk xl xc xo xto xr xch ts ik st, oX4 xn ek ef ew ep es (nI n) (nI sn) dn, cI aC xo 8 oc]) hP hD [0, 1, 2] (by decide) rfl
        have hP9 := hpd9.1
        have hD9 := hpd9.2
        refine W.widen (k := 0) (n := 0) (by omega) (by omega) ?_
        exact W.iret (v := x2) hx hb hr (fun t ht hW => ⟨⟨x2, (oc), rfl, ⟨by unfold sdz; rw [hsd]; rfl, fun q hq => by unfold sds; rw [hsd]; exact ho q hq⟩, by rw [ht]; exact hP9, va_K.moved hW.alike hK, hD9⟩, hS.F ht⟩) hS.2.2 dX11_drawOrder_83
      · have hk1 : 2 ≤ kk := by
          rcases Nat.lt_or_ge kk 2 with q | q
          · refine absurd ?_ c_4
            rw [hx3, ← iI_1, iI_lt (by unfold sm; omega) (by unfold sm; omega)]; omega
          · exact q
        obtain ⟨k, hkk⟩ : ∃ k, kk = k + 1 := ⟨kk - 1, by omega⟩
        subst hkk
        have h9 : x3 = nI k := by rw [hx3, nI_iI]; congr 1; omega
        subst h9
        refine lv_iload_n hx hb dX11_drawOrder_21 rfl (lv_at hl 2 rfl) ?_
        refine lv_ldcw hx hb hown (hts _ (gw kw_678 rfl)) dX11_drawOrder_22 ?_
        refine lv_imul hx hb dX11_drawOrder_25 ?_
        refine lv_topi (fun x_5 e_5 => ?_)
        refine lv_sipush (v := 12345) hx hb dX11_drawOrder_26 (by decide) ?_
        refine lv_iadd hx hb dX11_drawOrder_29 ?_
        refine lv_topi (fun x_6 e_6 => ?_)
        refine lv_istore_n (lv' := [(2, Value.int x_6), (0, Value.ref h0), (1, Value.int z), (3, Value.int (nI k))]) hx hb dX11_drawOrder_30 rfl hl (by decide) rfl (fun ls hl => ?_)
        have h9 : x_6 = lcg x2 := by rw [e_6, e_5]; rfl
        subst h9
        refine lv_iload_n hx hb dX11_drawOrder_31 rfl (lv_at hl 0 rfl) ?_
        refine lv_ldcw hx hb hown (hts _ (gw kw_679 rfl)) dX11_drawOrder_32 ?_
        refine lv_iand hx hb dX11_drawOrder_35 ?_
        refine lv_topi (fun x_7 e_7 => ?_)
        obtain ⟨mm, hmm, hme⟩ := dr_and (lcg x2)
        have h9 : x_7 = nI mm := by rw [e_7]; exact hme
        subst h9
        refine lv_ldcw hx hb hown (hts _ (gw kw_680 rfl)) dX11_drawOrder_36 ?_
        refine lv_idiv hx hb dX11_drawOrder_39 (by decide) ?_
        refine lv_topi (fun x_8 e_8 => ?_)
        have h9 : x_8 = nI (mm / 65536) := by rw [e_8]; exact pk_div (d := 65536) (by omega) (by omega) (by omega)
        subst h9
        refine lv_iload_n hx hb dX11_drawOrder_40 rfl (lv_at hl 3 rfl) ?_
        refine lv_iconst (v := 1) hx hb dX11_drawOrder_41 (by decide) ?_
        refine lv_iadd hx hb dX11_drawOrder_42 ?_
        refine lv_topi (fun x_9 e_9 => ?_)
        have h9 : x_9 = nI (k + 1) := by rw [e_9, nI_1]
        subst h9
        refine lv_irem hx hb dX11_drawOrder_43 (fun q => by have := (nI_eq (a := k + 1) (b := 0) (by omega) (by omega)).mp q; omega) ?_
        refine lv_topi (fun x_10 e_10 => ?_)
        have hdq : dq (lcg x2) k = mm / 65536 % (k + 1) := by unfold dq; rw [hme, nI_clamp (by omega)]
        have h9 : x_10 = nI (dq (lcg x2) k) := by rw [e_10, hdq]; exact pk_mod (a := mm / 65536) (d := k + 1) (Nat.lt_of_le_of_lt (Nat.div_le_self _ _) hmm) (by omega) (by omega)
        subst h9
        have hdr := dq_lt (z := lcg x2) (k := k)
        refine lv_istore (lv' := [(4, Value.int (nI (dq (lcg x2) k))), (2, Value.int (lcg x2)), (0, Value.ref h0), (1, Value.int z), (3, Value.int (nI k))]) hx hb dX11_drawOrder_44 hl (by decide) rfl (fun ls hl => ?_)
        refine lv_aload_n hx hb dX11_drawOrder_46 rfl (lv_at hl 2 rfl) ?_
        refine va_get (D := (dC, dI)) (ci := 11) (v := Value.ref xo) (C := RX11) (T := TX11) (N := 14) hx hb hts inX11 hown hK hP 0 rfl rfl 7 (by decide) (hts _ (gw kw_233 rfl)) (fun _ h9 => h9) rfl dX11_drawOrder_47 ?_
        refine lv_iload_n hx hb dX11_drawOrder_50 rfl (lv_at hl 4 rfl) ?_
        have h_11 : vp_in (nI k) 8 := vp_in_nI (by omega) (by omega)
        refine va_iald hx hb hK hP 2 0 rfl rfl h_11 dX11_drawOrder_51 ?_
        refine lv_topi (fun x_12 e_12 => ?_)
        have hxk : x_12 = oc k := by rw [e_12, nI_clamp (by omega)]
        refine lv_istore (lv' := [(5, Value.int x_12), (4, Value.int (nI (dq (lcg x2) k))), (2, Value.int (lcg x2)), (0, Value.ref h0), (1, Value.int z), (3, Value.int (nI k))]) hx hb dX11_drawOrder_52 hl (by decide) rfl (fun ls hl => ?_)
        refine lv_aload_n hx hb dX11_drawOrder_54 rfl (lv_at hl 3 rfl) ?_
        refine va_get (D := (dC, dI)) (ci := 11) (v := Value.ref xo) (C := RX11) (T := TX11) (N := 14) hx hb hts inX11 hown hK hP 0 rfl rfl 7 (by decide) (hts _ (gw kw_233 rfl)) (fun _ h9 => h9) rfl dX11_drawOrder_55 ?_
        refine lv_iload_n hx hb dX11_drawOrder_58 rfl (lv_at hl 5 rfl) ?_
        refine lv_aload_n hx hb dX11_drawOrder_59 rfl (lv_at hl 3 rfl) ?_
        refine va_get (D := (dC, dI)) (ci := 11) (v := Value.ref xo) (C := RX11) (T := TX11) (N := 14) hx hb hts inX11 hown hK hP 0 rfl rfl 7 (by decide) (hts _ (gw kw_233 rfl)) (fun _ h9 => h9) rfl dX11_drawOrder_60 ?_
        refine lv_iload hx hb dX11_drawOrder_63 (lv_at hl 1 rfl) ?_
        have h_13 : vp_in (nI (dq (lcg x2) k)) 8 := vp_in_nI (by omega) (by omega)
        refine va_iald hx hb hK hP 2 0 rfl rfl h_13 dX11_drawOrder_65 ?_
        refine lv_topi (fun x_14 e_14 => ?_)
        have hyd : x_14 = oc (dq (lcg x2) k) := by rw [e_14, nI_clamp (by omega)]
        have h_15 : vp_in (nI k) 8 := vp_in_nI (by omega) (by omega)
        refine va_iast hx hb hK hP hD hS 2 0 rfl rfl h_15 dX11_drawOrder_66 (fun H locs hP hD hS => ?_)
        obtain ⟨f_16, e_f_16⟩ : ∃ y : Nat → Int32, y = upd oc (nI k : Int32).toNatClampNeg x_14 := ⟨_, rfl⟩
        have hpd9 : PDx (dC, dI) classes A H [oX11 h0 xp xtp xn xt xk xl xc xo xto xr xch ts ik st, oX4 xn ek ef ew ep es (nI n) (nI sn) dn, cI aC xo 8 f_16] := by rw [e_f_16]; exact ⟨hP, hD⟩
        have hP := hpd9.1
        have hD := hpd9.2
        clear hpd9
        refine lv_aload_n hx hb dX11_drawOrder_67 rfl (lv_at hl 3 rfl) ?_
        refine va_get (D := (dC, dI)) (ci := 11) (v := Value.ref xo) (C := RX11) (T := TX11) (N := 14) hx hb hts inX11 hown hK hP 0 rfl rfl 7 (by decide) (hts _ (gw kw_233 rfl)) (fun _ h9 => h9) rfl dX11_drawOrder_68 ?_
        refine lv_iload hx hb dX11_drawOrder_71 (lv_at hl 1 rfl) ?_
        refine lv_iload hx hb dX11_drawOrder_73 (lv_at hl 0 rfl) ?_
        have h_17 : vp_in (nI (dq (lcg x2) k)) 8 := vp_in_nI (by omega) (by omega)
        refine va_iast hx hb hK hP hD hS 2 0 rfl rfl h_17 dX11_drawOrder_75 (fun H locs hP hD hS => ?_)
        obtain ⟨f_18, e_f_18⟩ : ∃ y : Nat → Int32, y = upd f_16 (nI (dq (lcg x2) k) : Int32).toNatClampNeg x_12 := ⟨_, rfl⟩
        have hpd9 : PDx (dC, dI) classes A H [oX11 h0 xp xtp xn xt xk xl xc xo xto xr xch ts ik st, oX4 xn ek ef ew ep es (nI n) (nI sn) dn, cI aC xo 8 f_18] := by rw [e_f_18]; exact ⟨hP, hD⟩
        have hP := hpd9.1
        have hD := hpd9.2
        clear hpd9
        have hso := sw_o (f1 := f_16) (f2 := f_18) hxk hyd (by rw [e_f_16, nI_clamp (by omega)]) (by rw [e_f_18, nI_clamp (by omega)])
        have ho2 : ∀ q, q < n → f_18 q = nI ((fun q => s9 (swq k (dq (lcg x2) k) q)) q) := fun q hq => by rw [hso q, ho _ (swq_lt (by omega) (by omega) hq)]
        have hsd2 : sdr (n - 1) z (fun q => q) = sdr (k - 1) (lcg x2) (fun q => s9 (swq k (dq (lcg x2) k) q)) := hsd.trans (sdr_s (k := k) (by omega))
        have hpr2 := PRM_sw hpr (a := k) (b := dq (lcg x2) k) (by omega) (by omega)
        obtain ⟨x_19, e_19⟩ : ∃ y : Int32, y = (nI k) + (-1) := ⟨_, rfl⟩
        refine lv_iinc (v := x_19) (lv' := [(3, Value.int x_19), (5, Value.int x_12), (4, Value.int (nI (dq (lcg x2) k))), (2, Value.int (lcg x2)), (0, Value.ref h0), (1, Value.int z)]) hx hb dX11_drawOrder_76 hl (k := 5) rfl (by rw [e_19]; rfl) (by decide) rfl (fun ls hl => ?_)
        refine lv_goto (tgt := 16) hx hb dX11_drawOrder_79 (by decide) ?_
        exact ih_16 k (lcg x2) x_19 f_18 (fun q => s9 (swq k (dq (lcg x2) k) q)) (by omega) (by omega) (by rw [e_19, nI_iI, show (-1 : Int32) = iI (-1) from rfl, iI_add]; rfl) (hsd2) (ho2) (hpr2) _ _ _ (hP.sub [0, 1, 2] rfl) (hD.sub [0, 1, 2] (by decide) rfl) hS (lv_sub hl [4, 5, 3, 0] rfl)
  exact lp_16 (n + 1) n z x_3 u_2 (fun q => q) (Nat.lt_succ_self _) (Nat.le_refl n) (by rw [e_3, nI_iI, ← iI_1, iI_sub]) (rfl) (hoa) (PRM_id) _ _ _ (hP.sub [0, 1, 2] rfl) (hD.sub [0, 1, 2] (by decide) rfl) hS (lv_sub hl [2, 3, 1, 0] rfl)

set_option maxHeartbeats 1000000 in
set_option maxRecDepth 100000 in
/-- X11_placeOf -/
theorem c_X11_placeOf (l : Launch) (dC : Nat → ClassId) (dI : Nat → Nat → Nat) (aC : Nat → ClassId) (sz : Nat) (h0 : Nat) (xp : Nat) (xtp : Nat) (xn : Nat) (xt : Nat) (xk : Nat) (xl : Nat) (xc : Nat) (xo : Nat) (xto : Nat) (xr : Nat) (xch : Nat) (ts : Int32) (ik : Int32) (st : Int32) (ek : Nat) (ef : Nat) (ew : Nat) (ep : Nat) (es : Nat) (n : Nat) (sn : Nat) (dn : Int32) (orf : Nat → Int32) (mq : Nat) (s9 : Nat → Nat) (hn8 : n ≤ 8) (hmq : mq < n) (ho : ∀ q, q < n → orf q = nI (s9 q)) (hs9 : ∀ q, q < n → s9 q < n) : Met l yX11_placeOf (wW yX11_placeOf cX11_placeOf 4 (some .int)) ({ frames := 0, cells := 0, slots := 0, locals := 0 } : Room) (va_Pc [Value.ref h0, Value.int (nI mq)] (fun U => U.heap.size = sz ∧ va_P (dC, dI) classes [oX11 h0 xp xtp xn xt xk xl xc xo xto xr xch ts ik st, oX4 xn ek ef ew ep es (nI n) (nI sn) dn, cI aC xo 8 orf] U.heap ∧ va_K (dC, dI) classes (TY aC) U ∧ va_D (fun _ => True) [oX11 h0 xp xtp xn xt xk xl xc xo xto xr xch ts ik st, oX4 xn ek ef ew ep es (nI n) (nI sn) dn, cI aC xo 8 orf] ∧ NX U)) (va_Qi (fun (r : Int32) (_ : Unit) => r = nI (plc s9 mq n)) (fun (_ : Unit) (t : State) => va_P (dC, dI) classes [oX11 h0 xp xtp xn xt xk xl xc xo xto xr xch ts ik st, oX4 xn ek ef ew ep es (nI n) (nI sn) dn, cI aC xo 8 orf] t.heap ∧ va_K (dC, dI) classes (TY aC) t ∧ va_D (va_A [oX11 h0 xp xtp xn xt xk xl xc xo xto xr xch ts ik st, oX4 xn ek ef ew ep es (nI n) (nI sn) dn, cI aC xo 8 orf] sz) [oX11 h0 xp xtp xn xt xk xl xc xo xto xr xch ts ik st, oX4 xn ek ef ew ep es (nI n) (nI sn) dn, cI aC xo 8 orf]) (va_A [oX11 h0 xp xtp xn xt xk xl xc xo xto xr xch ts ik st, oX4 xn ek ef ew ep es (nI n) (nI sn) dn, cI aC xo 8 orf] sz)) 0 0 (va_A [oX11 h0 xp xtp xn xt xk xl xc xo xto xr xch ts ik st, oX4 xn ek ef ew ep es (nI n) (nI sn) dn, cI aC xo 8 orf] sz) := by
  refine Met.ofW (cc := cX11_placeOf) (maxL := 4) (ret := (some .int)) (by decide) rfl ?_
  intro p e s m args below meth c s₁ B hml hv
  obtain ⟨rfl, hsz, hP, hK, hD0, hN⟩ := hv
  have hx := B.exec
  have hb := B.bytes
  have hr := B.returns
  have hts0 := atoms_spec (ws := (wW yX11_placeOf cX11_placeOf 4 (some .int))) B.pre
  have hts : ∀ w9 ∈ lw_G, w9.before ([Value.ref h0, Value.int (nI mq)] : List Value).toArray s = true := fun w9 h9 => hts0 w9 (List.mem_cons_of_mem _ h9)
  have hown : s.vm.findClass RX11 = some m.cls := findClass_of_methodNamed (x := yX11_placeOf) B.named
  have hlocks := B.notSynchronized
  subst hsz
  have hD := hD0.self (sz := s.heap.size)
  generalize hAe : va_A [oX11 h0 xp xtp xn xt xk xl xc xo xto xr xch ts ik st, oX4 xn ek ef ew ep es (nI n) (nI sn) dn, cI aC xo 8 orf] s.heap.size = A at hD ⊢
  have hA : ∀ q : Nat, s.heap.size ≤ q → A q := fun q h => by rw [← hAe]; exact Or.inr h
  obtain ⟨H, hHe⟩ : ∃ H : Heap, H = s.heap := ⟨_, rfl⟩
  have hS : va_S A s.heap H [] := by rw [hHe]; exact va_S.rf
  have hP : va_P (dC, dI) classes [oX11 h0 xp xtp xn xt xk xl xc xo xto xr xch ts ik st, oX4 xn ek ef ew ep es (nI n) (nI sn) dn, cI aC xo 8 orf] H := by rw [hHe]; exact hP
  have hl := lv_entry ([Value.ref h0, Value.int (nI mq)]) (n := 4) (Nat.le_of_ble_eq_true rfl)
  rw [lg_entry_eq]
  generalize (lg_sl ([Value.ref h0, Value.int (nI mq)]) ++ List.replicate (4 - (lg_sl ([Value.ref h0, Value.int (nI mq)])).length) Slot.unset).toArray = ls at hl ⊢
  have hl : lv_has ls 4 [(0, Value.ref h0), (1, Value.int (nI mq))] := hl
  rw [← hHe]
  refine lv_iconst (v := 0) hx hb dX11_placeOf_0 (by decide) ?_
  refine lv_istore_n (lv' := [(2, Value.int 0), (0, Value.ref h0), (1, Value.int (nI mq))]) hx hb dX11_placeOf_1 rfl hl (by decide) rfl (fun ls hl => ?_)
  refine lv_iconst (v := 0) hx hb dX11_placeOf_2 (by decide) ?_
  refine lv_istore_n (lv' := [(3, Value.int 0), (2, Value.int 0), (0, Value.ref h0), (1, Value.int (nI mq))]) hx hb dX11_placeOf_3 rfl hl (by decide) rfl (fun ls hl => ?_)
  have lp_4 : ∀ (fu : Nat) (j : Nat) (hfu : n - j < fu) (hj : j ≤ n) (H : Heap) (locs : List Loc) (ls : Array Slot), va_P (dC, dI) classes [oX11 h0 xp xtp xn xt xk xl xc xo xto xr xch ts ik st, oX4 xn ek ef ew ep es (nI n) (nI sn) dn, cI aC xo 8 orf] H → va_D A [oX11 h0 xp xtp xn xt xk xl xc xo xto xr xch ts ik st, oX4 xn ek ef ew ep es (nI n) (nI sn) dn, cI aC xo 8 orf] → va_S A s.heap H locs → lv_has ls 4 [(0, Value.ref h0), (1, Value.int (nI mq)), (2, Value.int (nI (plc s9 mq j))), (3, Value.int (nI j))] → W p l e (headSpec (wW yX11_placeOf cX11_placeOf 4 (some .int)) ({ frames := 0, cells := 0, slots := 0, locals := 0 } : Room)).room s m ([Value.ref h0, Value.int (nI mq)] : List Value).toArray below meth c H locs 0 0 (MQ below (va_Qi (fun (r : Int32) (_ : Unit) => r = nI (plc s9 mq n)) (fun (_ : Unit) (t : State) => va_P (dC, dI) classes [oX11 h0 xp xtp xn xt xk xl xc xo xto xr xch ts ik st, oX4 xn ek ef ew ep es (nI n) (nI sn) dn, cI aC xo 8 orf] t.heap ∧ va_K (dC, dI) classes (TY aC) t ∧ va_D A [oX11 h0 xp xtp xn xt xk xl xc xo xto xr xch ts ik st, oX4 xn ek ef ew ep es (nI n) (nI sn) dn, cI aC xo 8 orf]) A) ([Value.ref h0, Value.int (nI mq)] : List Value).toArray s 0 0 A) (F0 m 4 ls []) := by
    intro fu
    induction fu with
    | zero => intro j hfu; exact absurd hfu (Nat.not_lt_zero _)
    | succ fu ih_4 =>
      intro j hfu hj H locs ls hP hD hS hl
      refine lv_iload_n hx hb dX11_placeOf_4 rfl (lv_at hl 3 rfl) ?_
      refine lv_aload_n hx hb dX11_placeOf_5 rfl (lv_at hl 0 rfl) ?_
      refine va_get (D := (dC, dI)) (ci := 11) (v := Value.ref xn) (C := RX11) (T := TX11) (N := 14) hx hb hts inX11 hown hK hP 0 rfl rfl 2 (by decide) (hts _ (gw kw_228 rfl)) (fun _ h9 => h9) rfl dX11_placeOf_6 ?_
      refine va_get (D := (dC, dI)) (ci := 4) (v := Value.int (nI n)) (C := RX4) (T := TX4) (N := 8) hx hb hts inX4 hown hK hP 1 rfl rfl 5 (by decide) (hts _ (gw kw_50 rfl)) (fun _ h9 => h9) rfl dX11_placeOf_9 ?_
      refine lv_icmp_ge (tgt := 33) hx hb dX11_placeOf_12 (by decide) (fun c_1 => ?_) (fun c_1 => ?_)
      · have hjn : j = n := by
          rcases Nat.lt_or_ge j n with q | q
          · exact absurd c_1 (nI_ge q (by omega))
          · omega
        refine lv_iload_n hx hb dX11_placeOf_33 rfl (lv_at hl 2 rfl) ?_
        have hpd9 := pd_N (cx := [oX11 h0 xp xtp xn xt xk xl xc xo xto xr xch ts ik st, oX4 xn ek ef ew ep es (nI n) (nI sn) dn, cI aC xo 8 orf]) hP hD [0, 1, 2] (by decide) rfl
        have hP9 := hpd9.1
        have hD9 := hpd9.2
        refine W.widen (k := 0) (n := 0) (by omega) (by omega) ?_
        exact W.iret (v := nI (plc s9 mq j)) hx hb hr (fun t ht hW => ⟨⟨(nI (plc s9 mq j)), (), rfl, by rw [hjn], by rw [ht]; exact hP9, va_K.moved hW.alike hK, hD9⟩, hS.F ht⟩) hS.2.2 dX11_placeOf_34
      · have hlt : j < n := by
          rcases Nat.lt_or_ge j n with q | q
          · exact q
          · exact absurd (nI_le q (by omega)) c_1
        refine lv_aload_n hx hb dX11_placeOf_15 rfl (lv_at hl 0 rfl) ?_
        refine va_get (D := (dC, dI)) (ci := 11) (v := Value.ref xo) (C := RX11) (T := TX11) (N := 14) hx hb hts inX11 hown hK hP 0 rfl rfl 7 (by decide) (hts _ (gw kw_233 rfl)) (fun _ h9 => h9) rfl dX11_placeOf_16 ?_
        refine lv_iload_n hx hb dX11_placeOf_19 rfl (lv_at hl 3 rfl) ?_
        have h_2 : vp_in (nI j) 8 := vp_in_nI (by omega) (by omega)
        refine va_iald hx hb hK hP 2 0 rfl rfl h_2 dX11_placeOf_20 ?_
        refine lv_topi (fun x_3 e_3 => ?_)
        refine lv_iload_n hx hb dX11_placeOf_21 rfl (lv_at hl 1 rfl) ?_
        refine lv_icmp_ne (tgt := 27) hx hb dX11_placeOf_22 (by decide) (fun c_4 => ?_) (fun c_4 => ?_)
        · have hl : lv_has ls 4 [(0, Value.ref h0), (1, Value.int (nI mq)), (2, Value.int (nI (plc s9 mq (j + 1)))), (3, Value.int (nI j))] := by rw [← (show nI (plc s9 mq j) = nI (plc s9 mq (j + 1)) by show _ = nI (if s9 j = mq then j else plc s9 mq j); rw [if_neg (fun e9 => c_4 (by rw [e_3, nI_clamp (by omega), ho j hlt, e9]))])]; exact hl
          obtain ⟨x_5, e_5⟩ : ∃ y : Int32, y = (nI j) + 1 := ⟨_, rfl⟩
          refine lv_iinc (v := x_5) (lv' := [(3, Value.int x_5), (0, Value.ref h0), (1, Value.int (nI mq)), (2, Value.int (nI (plc s9 mq (j + 1))))]) hx hb dX11_placeOf_27 hl (k := 3) rfl (by rw [e_5]; rfl) (by decide) rfl (fun ls hl => ?_)
          have h9 : x_5 = nI (j + 1) := by rw [e_5, nI_1]
          subst h9
          refine lv_goto (tgt := 4) hx hb dX11_placeOf_30 (by decide) ?_
          exact ih_4 (j + 1) (ms_lt hlt hfu) (by omega) _ _ _ (hP.sub [0, 1, 2] rfl) (hD.sub [0, 1, 2] (by decide) rfl) hS (lv_sub hl [1, 2, 3, 0] rfl)
        · refine lv_iload_n hx hb dX11_placeOf_25 rfl (lv_at hl 3 rfl) ?_
          refine lv_istore_n (lv' := [(2, Value.int (nI j)), (0, Value.ref h0), (1, Value.int (nI mq)), (3, Value.int (nI j))]) hx hb dX11_placeOf_26 rfl hl (by decide) rfl (fun ls hl => ?_)
          have hl : lv_has ls 4 [(2, Value.int (nI (plc s9 mq (j + 1)))), (0, Value.ref h0), (1, Value.int (nI mq)), (3, Value.int (nI j))] := by rw [← (show nI j = nI (plc s9 mq (j + 1)) by show _ = nI (if s9 j = mq then j else plc s9 mq j); rw [if_pos ((nI_eq (by have := hs9 j hlt; omega) (by omega)).mp (by rw [← ho j hlt]; have h8 := c_4; rw [e_3, nI_clamp (by omega)] at h8; exact h8))])]; exact hl
          obtain ⟨x_6, e_6⟩ : ∃ y : Int32, y = (nI j) + 1 := ⟨_, rfl⟩
          refine lv_iinc (v := x_6) (lv' := [(3, Value.int x_6), (2, Value.int (nI (plc s9 mq (j + 1)))), (0, Value.ref h0), (1, Value.int (nI mq))]) hx hb dX11_placeOf_27 hl (k := 3) rfl (by rw [e_6]; rfl) (by decide) rfl (fun ls hl => ?_)
          have h9 : x_6 = nI (j + 1) := by rw [e_6, nI_1]
          subst h9
          refine lv_goto (tgt := 4) hx hb dX11_placeOf_30 (by decide) ?_
          exact ih_4 (j + 1) (ms_lt hlt hfu) (by omega) _ _ _ (hP.sub [0, 1, 2] rfl) (hD.sub [0, 1, 2] (by decide) rfl) hS (lv_sub hl [2, 3, 1, 0] rfl)
  exact lp_4 ((n - 0) + 1) 0 (Nat.lt_succ_self _) (by omega) _ _ _ (hP.sub [0, 1, 2] rfl) (hD.sub [0, 1, 2] (by decide) rfl) hS (lv_sub hl [2, 3, 1, 0] rfl)

set_option maxHeartbeats 1000000 in
set_option maxRecDepth 100000 in
/-- X11_swap -/
theorem c_X11_swap (l : Launch) (dC : Nat → ClassId) (dI : Nat → Nat → Nat) (aC : Nat → ClassId) (sz : Nat) (h0 : Nat) (xp : Nat) (xtp : Nat) (xn : Nat) (xt : Nat) (xk : Nat) (xl : Nat) (xc : Nat) (xo : Nat) (xto : Nat) (xr : Nat) (xch : Nat) (ts : Int32) (ik : Int32) (st : Int32) (ek : Nat) (ef : Nat) (ew : Nat) (ep : Nat) (es : Nat) (n : Nat) (sn : Nat) (dn : Int32) (kf : Nat → Int32) (ff : Nat → Int32) (wf : Nat → Int32) (pf : Nat → Int32) (stf : Nat → Int32) (tek : Nat) (tef : Nat) (tew : Nat) (tep : Nat) (tes : Nat) (tsz : Int32) (tsy : Int32) (tdn : Int32) (tkf : Nat → Int32) (tff : Nat → Int32) (twf : Nat → Int32) (tpf : Nat → Int32) (tsf : Nat → Int32) (orf : Nat → Int32) (K : Nat → Nat) (F : Nat → Nat) (W0 : Nat → Nat) (S5 : Nat → Nat) (rf : Nat → Int32) (i : Int32) (j : Int32) (tG : Nat) (hev : EVS n sn dn K F W0 S5 kf ff wf stf) : Met l yX11_swap (wW yX11_swap cX11_swap 3 (some .int)) ({ frames := 3, cells := 0, slots := 0, locals := 83 } : Room) (va_Pc [Value.ref h0, Value.int i, Value.int j] (fun U => U.heap.size = sz ∧ va_P (dC, dI) classes [oX11 h0 xp xtp xn xt xk xl xc xo xto xr xch ts ik st, oX4 xn ek ef ew ep es (nI n) (nI sn) dn, cI aC ek 8 kf, cI aC ef 8 ff, cI aC ew 8 wf, cI aC ep 8 pf, cI aC es 5 stf, oX4 xt tek tef tew tep tes tsz tsy tdn, cI aC tek 8 tkf, cI aC tef 8 tff, cI aC tew 8 twf, cI aC tep 8 tpf, cI aC tes 5 tsf, cI aC xo 8 orf, cI aC xr 7 rf] U.heap ∧ va_K (dC, dI) classes (TY aC) U ∧ va_D (fun _ => True) [oX11 h0 xp xtp xn xt xk xl xc xo xto xr xch ts ik st, oX4 xn ek ef ew ep es (nI n) (nI sn) dn, cI aC ek 8 kf, cI aC ef 8 ff, cI aC ew 8 wf, cI aC ep 8 pf, cI aC es 5 stf, oX4 xt tek tef tew tep tes tsz tsy tdn, cI aC tek 8 tkf, cI aC tef 8 tff, cI aC tew 8 twf, cI aC tep 8 tpf, cI aC tes 5 tsf, cI aC xo 8 orf, cI aC xr 7 rf] ∧ NX U ∧ va_Z "EldestSays" "GREATEST" "[I" (.ref tG) (va_A [oX11 h0 xp xtp xn xt xk xl xc xo xto xr xch ts ik st, oX4 xn ek ef ew ep es (nI n) (nI sn) dn, cI aC ek 8 kf, cI aC ef 8 ff, cI aC ew 8 wf, cI aC ep 8 pf, cI aC es 5 stf, oX4 xt tek tef tew tep tes tsz tsy tdn, cI aC tek 8 tkf, cI aC tef 8 tff, cI aC tew 8 twf, cI aC tep 8 tpf, cI aC tes 5 tsf, cI aC xo 8 orf, cI aC xr 7 rf] sz) U U.heap ∧ va_T .int tG 5 (fun j => .int (GV j)) (va_A [oX11 h0 xp xtp xn xt xk xl xc xo xto xr xch ts ik st, oX4 xn ek ef ew ep es (nI n) (nI sn) dn, cI aC ek 8 kf, cI aC ef 8 ff, cI aC ew 8 wf, cI aC ep 8 pf, cI aC es 5 stf, oX4 xt tek tef tew tep tes tsz tsy tdn, cI aC tek 8 tkf, cI aC tef 8 tff, cI aC tew 8 twf, cI aC tep 8 tpf, cI aC tes 5 tsf, cI aC xo 8 orf, cI aC xr 7 rf] sz) U U.heap)) (va_Qi (fun (r : Int32) (u : Int32 × Int32 × Int32 × Int32 × (Nat → Int32) × (Nat → Int32) × (Nat → Int32) × (Nat → Int32) × (Nat → Int32) × (Nat → Int32) × (Nat → Int32) × (Nat → Int32) × (Nat → Int32) × (Nat → Int32) × (Nat → Int32) × (Nat → Int32)) => match u with | (st2, tsz2, tsy2, tdn2, kf2, ff2, wf2, pf2, stf2, tkf2, tff2, twf2, tpf2, tsf2, org, rf2) => r = rSwp n sn dn i j ∧ (SWK n sn dn i j → st2 = 1 ∧ EVS n sn dn (fun q => K (swq i.toNatClampNeg j.toNatClampNeg q)) (fun q => F (swq i.toNatClampNeg j.toNatClampNeg q)) (fun q => W0 (swq i.toNatClampNeg j.toNatClampNeg q)) S5 kf2 ff2 wf2 stf2 ∧ ∀ k, k < 8 → pf2 k = pf k) ∧ (¬ SWK n sn dn i j → st2 = st ∧ kf2 = kf ∧ ff2 = ff ∧ wf2 = wf ∧ pf2 = pf ∧ stf2 = stf)) (fun (u : Int32 × Int32 × Int32 × Int32 × (Nat → Int32) × (Nat → Int32) × (Nat → Int32) × (Nat → Int32) × (Nat → Int32) × (Nat → Int32) × (Nat → Int32) × (Nat → Int32) × (Nat → Int32) × (Nat → Int32) × (Nat → Int32) × (Nat → Int32)) (t : State) => match u with | (st2, tsz2, tsy2, tdn2, kf2, ff2, wf2, pf2, stf2, tkf2, tff2, twf2, tpf2, tsf2, org, rf2) => va_P (dC, dI) classes [oX11 h0 xp xtp xn xt xk xl xc xo xto xr xch ts ik st2, oX4 xn ek ef ew ep es (nI n) (nI sn) dn, cI aC ek 8 kf2, cI aC ef 8 ff2, cI aC ew 8 wf2, cI aC ep 8 pf2, cI aC es 5 stf2, oX4 xt tek tef tew tep tes tsz2 tsy2 tdn2, cI aC tek 8 tkf2, cI aC tef 8 tff2, cI aC tew 8 twf2, cI aC tep 8 tpf2, cI aC tes 5 tsf2, cI aC xo 8 org, cI aC xr 7 rf2] t.heap ∧ va_K (dC, dI) classes (TY aC) t ∧ va_D (va_A [oX11 h0 xp xtp xn xt xk xl xc xo xto xr xch ts ik st, oX4 xn ek ef ew ep es (nI n) (nI sn) dn, cI aC ek 8 kf, cI aC ef 8 ff, cI aC ew 8 wf, cI aC ep 8 pf, cI aC es 5 stf, oX4 xt tek tef tew tep tes tsz tsy tdn, cI aC tek 8 tkf, cI aC tef 8 tff, cI aC tew 8 twf, cI aC tep 8 tpf, cI aC tes 5 tsf, cI aC xo 8 orf, cI aC xr 7 rf] sz) [oX11 h0 xp xtp xn xt xk xl xc xo xto xr xch ts ik st2, oX4 xn ek ef ew ep es (nI n) (nI sn) dn, cI aC ek 8 kf2, cI aC ef 8 ff2, cI aC ew 8 wf2, cI aC ep 8 pf2, cI aC es 5 stf2, oX4 xt tek tef tew tep tes tsz2 tsy2 tdn2, cI aC tek 8 tkf2, cI aC tef 8 tff2, cI aC tew 8 twf2, cI aC tep 8 tpf2, cI aC tes 5 tsf2, cI aC xo 8 org, cI aC xr 7 rf2]) (va_A [oX11 h0 xp xtp xn xt xk xl xc xo xto xr xch ts ik st, oX4 xn ek ef ew ep es (nI n) (nI sn) dn, cI aC ek 8 kf, cI aC ef 8 ff, cI aC ew 8 wf, cI aC ep 8 pf, cI aC es 5 stf, oX4 xt tek tef tew tep tes tsz tsy tdn, cI aC tek 8 tkf, cI aC tef 8 tff, cI aC tew 8 twf, cI aC tep 8 tpf, cI aC tes 5 tsf, cI aC xo 8 orf, cI aC xr 7 rf] sz)) 0 0 (va_A [oX11 h0 xp xtp xn xt xk xl xc xo xto xr xch ts ik st, oX4 xn ek ef ew ep es (nI n) (nI sn) dn, cI aC ek 8 kf, cI aC ef 8 ff, cI aC ew 8 wf, cI aC ep 8 pf, cI aC es 5 stf, oX4 xt tek tef tew tep tes tsz tsy tdn, cI aC tek 8 tkf, cI aC tef 8 tff, cI aC tew 8 twf, cI aC tep 8 tpf, cI aC tes 5 tsf, cI aC xo 8 orf, cI aC xr 7 rf] sz) := by
  refine Met.ofW (cc := cX11_swap) (maxL := 3) (ret := (some .int)) (by decide) rfl ?_
  intro p e s m args below meth c s₁ B hml hv
  obtain ⟨rfl, hsz, hP, hK, hD0, hN, hZG, hTG⟩ := hv
  have hx := B.exec
  have hb := B.bytes
  have hr := B.returns
  have hts0 := atoms_spec (ws := (wW yX11_swap cX11_swap 3 (some .int))) B.pre
  have hts : ∀ w9 ∈ lw_G, w9.before ([Value.ref h0, Value.int i, Value.int j] : List Value).toArray s = true := fun w9 h9 => hts0 w9 (List.mem_cons_of_mem _ h9)
  have hown : s.vm.findClass RX11 = some m.cls := findClass_of_methodNamed (x := yX11_swap) B.named
  have hlocks := B.notSynchronized
  subst hsz
  have hD := hD0.self (sz := s.heap.size)
  generalize hAe : va_A [oX11 h0 xp xtp xn xt xk xl xc xo xto xr xch ts ik st, oX4 xn ek ef ew ep es (nI n) (nI sn) dn, cI aC ek 8 kf, cI aC ef 8 ff, cI aC ew 8 wf, cI aC ep 8 pf, cI aC es 5 stf, oX4 xt tek tef tew tep tes tsz tsy tdn, cI aC tek 8 tkf, cI aC tef 8 tff, cI aC tew 8 twf, cI aC tep 8 tpf, cI aC tes 5 tsf, cI aC xo 8 orf, cI aC xr 7 rf] s.heap.size = A at hZG hTG hD ⊢
  have hA : ∀ q : Nat, s.heap.size ≤ q → A q := fun q h => by rw [← hAe]; exact Or.inr h
  obtain ⟨H, hHe⟩ : ∃ H : Heap, H = s.heap := ⟨_, rfl⟩
  have hS : va_S A s.heap H [] := by rw [hHe]; exact va_S.rf
  have hP : va_P (dC, dI) classes [oX11 h0 xp xtp xn xt xk xl xc xo xto xr xch ts ik st, oX4 xn ek ef ew ep es (nI n) (nI sn) dn, cI aC ek 8 kf, cI aC ef 8 ff, cI aC ew 8 wf, cI aC ep 8 pf, cI aC es 5 stf, oX4 xt tek tef tew tep tes tsz tsy tdn, cI aC tek 8 tkf, cI aC tef 8 tff, cI aC tew 8 twf, cI aC tep 8 tpf, cI aC tes 5 tsf, cI aC xo 8 orf, cI aC xr 7 rf] H := by rw [hHe]; exact hP
  have hl := lv_entry ([Value.ref h0, Value.int i, Value.int j]) (n := 3) (Nat.le_of_ble_eq_true rfl)
  rw [lg_entry_eq]
  generalize (lg_sl ([Value.ref h0, Value.int i, Value.int j]) ++ List.replicate (3 - (lg_sl ([Value.ref h0, Value.int i, Value.int j])).length) Slot.unset).toArray = ls at hl ⊢
  have hl : lv_has ls 3 [(0, Value.ref h0), (1, Value.int i), (2, Value.int j)] := hl
  rw [← hHe]
  have hn8 := EVS_n hev
  refine lv_aload_n hx hb dX11_swap_0 rfl (lv_at hl 0 rfl) ?_
  refine va_get (D := (dC, dI)) (ci := 11) (v := Value.ref xn) (C := RX11) (T := TX11) (N := 14) hx hb hts inX11 hown hK hP 0 rfl rfl 2 (by decide) (hts _ (gw kw_228 rfl)) (fun _ h9 => h9) rfl dX11_swap_1 ?_
  refine lv_iload_n hx hb dX11_swap_4 rfl (lv_at hl 1 rfl) ?_
  have hpd9 := pdf_N (cx := [oX4 xn ek ef ew ep es (nI n) (nI sn) dn]) hP hD hS hA [1] (by decide) rfl
  have hPc := hpd9.1
  have hDc := hpd9.2.1
  have hFc := hpd9.2.2
  clear hpd9
  refine va_calli (va_runV (As := [Value.int i]) (rest := []) ⟨hx, hb, hml, hown, hts⟩ (c_X4_has l dC dI aC H.size xn ek ef ew ep es (nI n) (nI sn) dn i ) ⟨(callB_of 1 hts (gG kw_340) rfl rfl rfl (hts _ (gw kw_2 rfl)) (hts _ (gw kw_337 rfl)) hd_X4_has ⟨Nat.le_of_ble_eq_true rfl, Nat.le_of_ble_eq_true rfl⟩), (hts _ (gw kw_338 rfl)), (hts _ (gw kw_339 rfl))⟩ ⟨fb_std, va_recv (q := (RX4, TX4, 8)) hK hPc (ci := 4) (q0 := 0) rfl rfl, pre_std hPc hK hDc hN⟩ rfl rfl hl.1 rfl (lv_room (Nat.le_of_ble_eq_true rfl)) dX11_swap_5 ⟨Nat.le_of_ble_eq_true rfl, Nat.le_of_ble_eq_true rfl⟩) hS (fun q _ h => hFc q h) hFc (fun x_1 u9 t9 H1 locs ht hvm hw_1 hB hz1 hk1 hS => ?_)
  obtain ⟨hP1, hK1, hD1⟩ := hB
  rw [ht] at hP1
  clear hK1
  try dsimp only at hw_1
  have hpd9 : PDx (dC, dI) classes A H1 [oX11 h0 xp xtp xn xt xk xl xc xo xto xr xch ts ik st, cI aC ek 8 kf, cI aC ef 8 ff, cI aC ew 8 wf, cI aC ep 8 pf, cI aC es 5 stf, oX4 xt tek tef tew tep tes tsz tsy tdn, cI aC tek 8 tkf, cI aC tef 8 tff, cI aC tew 8 twf, cI aC tep 8 tpf, cI aC tes 5 tsf, cI aC xo 8 orf, cI aC xr 7 rf, oX4 xn ek ef ew ep es (nI n) (nI sn) dn] := jn_N (wr := [oX11 h0 xp xtp xn xt xk xl xc xo xto xr xch ts ik st, cI aC ek 8 kf, cI aC ef 8 ff, cI aC ew 8 wf, cI aC ep 8 pf, cI aC es 5 stf, oX4 xt tek tef tew tep tes tsz tsy tdn, cI aC tek 8 tkf, cI aC tef 8 tff, cI aC tew 8 twf, cI aC tep 8 tpf, cI aC tes 5 tsf, cI aC xo 8 orf, cI aC xr 7 rf]) hFc hk1 hP1 hD1 hP hD [1] [0, 2, 3, 4, 5, 6, 7, 8, 9, 10, 11, 12, 13, 14] rfl rfl (by decide) (by decide)
  have hP := hpd9.1
  have hD := hpd9.2
  clear hpd9
  generalize H1 = H at hP hS ⊢
  clear hPc hDc hFc hz1 hk1 hP1 hD1 ht hvm
  have hz_5 := hw_1
  refine lv_if_eq (tgt := 27) hx hb dX11_swap_8 (by decide) (fun c_2 => ?_) (fun c_2 => ?_)
  · refine lv_aload_n hx hb dX11_swap_27 rfl (lv_at hl 0 rfl) ?_
    refine lv_iconst (v := -1) hx hb dX11_swap_28 (by decide) ?_
    have hpd9 := pdf_N (cx := [oX11 h0 xp xtp xn xt xk xl xc xo xto xr xch ts ik st, cI aC xr 7 rf]) hP hD hS hA [0, 13] (by decide) rfl
    have hPc := hpd9.1
    have hDc := hpd9.2.1
    have hFc := hpd9.2.2
    clear hpd9
    refine va_calli (va_runV (As := [Value.int (-1)]) (rest := []) ⟨hx, hb, hml, hown, hts⟩ (c_X11_refuse l dC dI aC H.size h0 xp xtp xn xt xk xl xc xo xto xr xch ts ik st (-1) 1 rf (by decide) (by decide) (by decide) (by unfold vp_in; decide)) ⟨(callB_of 1 hts (gG kw_276) rfl rfl rfl (hts _ (gw kw_1 rfl)) (hts _ (gw kw_273 rfl)) hd_X11_refuse ⟨Nat.le_of_ble_eq_true rfl, Nat.le_of_ble_eq_true rfl⟩), (hts _ (gw kw_275 rfl)), (hts _ (gw ks_0 rfl))⟩ ⟨fb_std, va_recv (q := (RX11, TX11, 14)) hK hPc (ci := 11) (q0 := 0) rfl rfl, pre_std hPc hK hDc hN⟩ rfl rfl hl.1 rfl (lv_room (Nat.le_of_ble_eq_true rfl)) dX11_swap_29 ⟨Nat.le_of_ble_eq_true rfl, Nat.le_of_ble_eq_true rfl⟩) hS (fun q _ h => hFc q h) hFc (fun x_3 u9 t9 H1 locs ht hvm hw_3 hB hz1 hk1 hS => ?_)
    obtain ⟨u_4, rfl⟩ : ∃ z, z = u9 := ⟨_, rfl⟩
    obtain ⟨hP1, hK1, hD1⟩ := hB
    rw [ht] at hP1
    clear hK1
    try dsimp only at hw_3
    have hpd9 : PDx (dC, dI) classes A H1 [cI aC ek 8 kf, cI aC ef 8 ff, cI aC ew 8 wf, cI aC ep 8 pf, cI aC es 5 stf, oX4 xt tek tef tew tep tes tsz tsy tdn, cI aC tek 8 tkf, cI aC tef 8 tff, cI aC tew 8 twf, cI aC tep 8 tpf, cI aC tes 5 tsf, cI aC xo 8 orf, oX4 xn ek ef ew ep es (nI n) (nI sn) dn, oX11 h0 xp xtp xn xt xk xl xc xo xto xr xch ts ik st, cI aC xr 7 u_4] := jn_N (wr := [cI aC ek 8 kf, cI aC ef 8 ff, cI aC ew 8 wf, cI aC ep 8 pf, cI aC es 5 stf, oX4 xt tek tef tew tep tes tsz tsy tdn, cI aC tek 8 tkf, cI aC tef 8 tff, cI aC tew 8 twf, cI aC tep 8 tpf, cI aC tes 5 tsf, cI aC xo 8 orf, oX4 xn ek ef ew ep es (nI n) (nI sn) dn]) hFc hk1 hP1 hD1 hP hD [0, 13] [1, 2, 3, 4, 5, 6, 7, 8, 9, 10, 11, 12, 14] rfl rfl (by decide) (by decide)
    have hP := hpd9.1
    have hD := hpd9.2
    clear hpd9
    generalize H1 = H at hP hS ⊢
    clear hPc hDc hFc hz1 hk1 hP1 hD1 ht hvm
    obtain ⟨hv9, -⟩ := hw_3
    have hpd9 := pd_N (cx := [oX11 h0 xp xtp xn xt xk xl xc xo xto xr xch ts ik st, oX4 xn ek ef ew ep es (nI n) (nI sn) dn, cI aC ek 8 kf, cI aC ef 8 ff, cI aC ew 8 wf, cI aC ep 8 pf, cI aC es 5 stf, oX4 xt tek tef tew tep tes tsz tsy tdn, cI aC tek 8 tkf, cI aC tef 8 tff, cI aC tew 8 twf, cI aC tep 8 tpf, cI aC tes 5 tsf, cI aC xo 8 orf, cI aC xr 7 u_4]) hP hD [13, 12, 0, 1, 2, 3, 4, 5, 6, 7, 8, 9, 10, 11, 14] (by decide) rfl
    have hP9 := hpd9.1
    have hD9 := hpd9.2
    refine W.widen (k := 0) (n := 0) (by omega) (by omega) ?_
    exact W.iret (v := x_3) hx hb hr (fun t ht hW => ⟨⟨x_3, (st, tsz, tsy, tdn, kf, ff, wf, pf, stf, tkf, tff, twf, tpf, tsf, orf, u_4), rfl, ⟨by rw [hv9]; unfold rSwp; rw [if_neg (fun q => (has_n hz_5 c_2) q.1)], fun q => absurd q (fun q => (has_n hz_5 c_2) q.1), fun _ => ⟨rfl, rfl, rfl, rfl, rfl, rfl⟩⟩, by rw [ht]; exact hP9, va_K.moved hW.alike hK, hD9⟩, hS.F ht⟩) hS.2.2 dX11_swap_32
  · obtain ⟨a, ha8, ha9⟩ := OKI_ix hn8 (has_y hz_5 c_2)
    have h9 : i = nI a := ha9
    subst h9
    refine lv_aload_n hx hb dX11_swap_11 rfl (lv_at hl 0 rfl) ?_
    refine va_get (D := (dC, dI)) (ci := 11) (v := Value.ref xn) (C := RX11) (T := TX11) (N := 14) hx hb hts inX11 hown hK hP 0 rfl rfl 2 (by decide) (hts _ (gw kw_228 rfl)) (fun _ h9 => h9) rfl dX11_swap_12 ?_
    refine lv_iload_n hx hb dX11_swap_15 rfl (lv_at hl 2 rfl) ?_
    have hpd9 := pdf_N (cx := [oX4 xn ek ef ew ep es (nI n) (nI sn) dn]) hP hD hS hA [14] (by decide) rfl
    have hPc := hpd9.1
    have hDc := hpd9.2.1
    have hFc := hpd9.2.2
    clear hpd9
    refine va_calli (va_runV (As := [Value.int j]) (rest := []) ⟨hx, hb, hml, hown, hts⟩ (c_X4_has l dC dI aC H.size xn ek ef ew ep es (nI n) (nI sn) dn j ) ⟨(callB_of 1 hts (gG kw_340) rfl rfl rfl (hts _ (gw kw_2 rfl)) (hts _ (gw kw_337 rfl)) hd_X4_has ⟨Nat.le_of_ble_eq_true rfl, Nat.le_of_ble_eq_true rfl⟩), (hts _ (gw kw_338 rfl)), (hts _ (gw kw_339 rfl))⟩ ⟨fb_std, va_recv (q := (RX4, TX4, 8)) hK hPc (ci := 4) (q0 := 0) rfl rfl, pre_std hPc hK hDc hN⟩ rfl rfl hl.1 rfl (lv_room (Nat.le_of_ble_eq_true rfl)) dX11_swap_16 ⟨Nat.le_of_ble_eq_true rfl, Nat.le_of_ble_eq_true rfl⟩) hS (fun q _ h => hFc q h) hFc (fun x_5 u9 t9 H1 locs ht hvm hw_5 hB hz1 hk1 hS => ?_)
    obtain ⟨hP1, hK1, hD1⟩ := hB
    rw [ht] at hP1
    clear hK1
    try dsimp only at hw_5
    have hpd9 : PDx (dC, dI) classes A H1 [oX11 h0 xp xtp xn xt xk xl xc xo xto xr xch ts ik st, cI aC ek 8 kf, cI aC ef 8 ff, cI aC ew 8 wf, cI aC ep 8 pf, cI aC es 5 stf, oX4 xt tek tef tew tep tes tsz tsy tdn, cI aC tek 8 tkf, cI aC tef 8 tff, cI aC tew 8 twf, cI aC tep 8 tpf, cI aC tes 5 tsf, cI aC xo 8 orf, cI aC xr 7 rf, oX4 xn ek ef ew ep es (nI n) (nI sn) dn] := jn_N (wr := [oX11 h0 xp xtp xn xt xk xl xc xo xto xr xch ts ik st, cI aC ek 8 kf, cI aC ef 8 ff, cI aC ew 8 wf, cI aC ep 8 pf, cI aC es 5 stf, oX4 xt tek tef tew tep tes tsz tsy tdn, cI aC tek 8 tkf, cI aC tef 8 tff, cI aC tew 8 twf, cI aC tep 8 tpf, cI aC tes 5 tsf, cI aC xo 8 orf, cI aC xr 7 rf]) hFc hk1 hP1 hD1 hP hD [14] [0, 1, 2, 3, 4, 5, 6, 7, 8, 9, 10, 11, 12, 13] rfl rfl (by decide) (by decide)
    have hP := hpd9.1
    have hD := hpd9.2
    clear hpd9
    generalize H1 = H at hP hS ⊢
    clear hPc hDc hFc hz1 hk1 hP1 hD1 ht hvm
    have hz_16 := hw_5
    refine lv_if_eq (tgt := 27) hx hb dX11_swap_19 (by decide) (fun c_6 => ?_) (fun c_6 => ?_)
    · refine lv_aload_n hx hb dX11_swap_27 rfl (lv_at hl 0 rfl) ?_
      refine lv_iconst (v := -1) hx hb dX11_swap_28 (by decide) ?_
      have hpd9 := pdf_N (cx := [oX11 h0 xp xtp xn xt xk xl xc xo xto xr xch ts ik st, cI aC xr 7 rf]) hP hD hS hA [0, 13] (by decide) rfl
      have hPc := hpd9.1
      have hDc := hpd9.2.1
      have hFc := hpd9.2.2
      clear hpd9
      refine va_calli (va_runV (As := [Value.int (-1)]) (rest := []) ⟨hx, hb, hml, hown, hts⟩ (c_X11_refuse l dC dI aC H.size h0 xp xtp xn xt xk xl xc xo xto xr xch ts ik st (-1) 1 rf (by decide) (by decide) (by decide) (by unfold vp_in; decide)) ⟨(callB_of 1 hts (gG kw_276) rfl rfl rfl (hts _ (gw kw_1 rfl)) (hts _ (gw kw_273 rfl)) hd_X11_refuse ⟨Nat.le_of_ble_eq_true rfl, Nat.le_of_ble_eq_true rfl⟩), (hts _ (gw kw_275 rfl)), (hts _ (gw ks_0 rfl))⟩ ⟨fb_std, va_recv (q := (RX11, TX11, 14)) hK hPc (ci := 11) (q0 := 0) rfl rfl, pre_std hPc hK hDc hN⟩ rfl rfl hl.1 rfl (lv_room (Nat.le_of_ble_eq_true rfl)) dX11_swap_29 ⟨Nat.le_of_ble_eq_true rfl, Nat.le_of_ble_eq_true rfl⟩) hS (fun q _ h => hFc q h) hFc (fun x_7 u9 t9 H1 locs ht hvm hw_7 hB hz1 hk1 hS => ?_)
      obtain ⟨u_8, rfl⟩ : ∃ z, z = u9 := ⟨_, rfl⟩
      obtain ⟨hP1, hK1, hD1⟩ := hB
      rw [ht] at hP1
      clear hK1
      try dsimp only at hw_7
      have hpd9 : PDx (dC, dI) classes A H1 [cI aC ek 8 kf, cI aC ef 8 ff, cI aC ew 8 wf, cI aC ep 8 pf, cI aC es 5 stf, oX4 xt tek tef tew tep tes tsz tsy tdn, cI aC tek 8 tkf, cI aC tef 8 tff, cI aC tew 8 twf, cI aC tep 8 tpf, cI aC tes 5 tsf, cI aC xo 8 orf, oX4 xn ek ef ew ep es (nI n) (nI sn) dn, oX11 h0 xp xtp xn xt xk xl xc xo xto xr xch ts ik st, cI aC xr 7 u_8] := jn_N (wr := [cI aC ek 8 kf, cI aC ef 8 ff, cI aC ew 8 wf, cI aC ep 8 pf, cI aC es 5 stf, oX4 xt tek tef tew tep tes tsz tsy tdn, cI aC tek 8 tkf, cI aC tef 8 tff, cI aC tew 8 twf, cI aC tep 8 tpf, cI aC tes 5 tsf, cI aC xo 8 orf, oX4 xn ek ef ew ep es (nI n) (nI sn) dn]) hFc hk1 hP1 hD1 hP hD [0, 13] [1, 2, 3, 4, 5, 6, 7, 8, 9, 10, 11, 12, 14] rfl rfl (by decide) (by decide)
      have hP := hpd9.1
      have hD := hpd9.2
      clear hpd9
      generalize H1 = H at hP hS ⊢
      clear hPc hDc hFc hz1 hk1 hP1 hD1 ht hvm
      obtain ⟨hv9, -⟩ := hw_7
      have hpd9 := pd_N (cx := [oX11 h0 xp xtp xn xt xk xl xc xo xto xr xch ts ik st, oX4 xn ek ef ew ep es (nI n) (nI sn) dn, cI aC ek 8 kf, cI aC ef 8 ff, cI aC ew 8 wf, cI aC ep 8 pf, cI aC es 5 stf, oX4 xt tek tef tew tep tes tsz tsy tdn, cI aC tek 8 tkf, cI aC tef 8 tff, cI aC tew 8 twf, cI aC tep 8 tpf, cI aC tes 5 tsf, cI aC xo 8 orf, cI aC xr 7 u_8]) hP hD [13, 12, 0, 1, 2, 3, 4, 5, 6, 7, 8, 9, 10, 11, 14] (by decide) rfl
      have hP9 := hpd9.1
      have hD9 := hpd9.2
      refine W.widen (k := 0) (n := 0) (by omega) (by omega) ?_
      exact W.iret (v := x_7) hx hb hr (fun t ht hW => ⟨⟨x_7, (st, tsz, tsy, tdn, kf, ff, wf, pf, stf, tkf, tff, twf, tpf, tsf, orf, u_8), rfl, ⟨by rw [hv9]; unfold rSwp; rw [if_neg (fun q => (has_n hz_16 c_6) q.2.1)], fun q => absurd q (fun q => (has_n hz_16 c_6) q.2.1), fun _ => ⟨rfl, rfl, rfl, rfl, rfl, rfl⟩⟩, by rw [ht]; exact hP9, va_K.moved hW.alike hK, hD9⟩, hS.F ht⟩) hS.2.2 dX11_swap_32
    · obtain ⟨b, hb8, hb9⟩ := OKI_ix hn8 (has_y hz_16 c_6)
      have h9 : j = nI b := hb9
      subst h9
      refine lv_iload_n hx hb dX11_swap_22 rfl (lv_at hl 1 rfl) ?_
      refine lv_iload_n hx hb dX11_swap_23 rfl (lv_at hl 2 rfl) ?_
      refine lv_icmp_ne (tgt := 33) hx hb dX11_swap_24 (by decide) (fun c_9 => ?_) (fun c_9 => ?_)
      · refine lv_aload_n hx hb dX11_swap_33 rfl (lv_at hl 0 rfl) ?_
        refine va_get (D := (dC, dI)) (ci := 11) (v := Value.ref xn) (C := RX11) (T := TX11) (N := 14) hx hb hts inX11 hown hK hP 0 rfl rfl 2 (by decide) (hts _ (gw kw_228 rfl)) (fun _ h9 => h9) rfl dX11_swap_34 ?_
        have hpd9 := pdf_N (cx := [oX4 xn ek ef ew ep es (nI n) (nI sn) dn]) hP hD hS hA [14] (by decide) rfl
        have hPc := hpd9.1
        have hDc := hpd9.2.1
        have hFc := hpd9.2.2
        clear hpd9
        refine va_calli (va_runV (As := []) (rest := []) ⟨hx, hb, hml, hown, hts⟩ (c_X4_isOver l dC dI aC H.size xn ek ef ew ep es (nI n) (nI sn) dn ) ⟨(callB_of 0 hts (gG kw_523) rfl rfl rfl (hts _ (gw kw_2 rfl)) (hts _ (gw kw_520 rfl)) hd_X4_isOver ⟨Nat.le_of_ble_eq_true rfl, Nat.le_of_ble_eq_true rfl⟩), (hts _ (gw kw_521 rfl)), (hts _ (gw kw_522 rfl))⟩ ⟨fb_std, va_recv (q := (RX4, TX4, 8)) hK hPc (ci := 4) (q0 := 0) rfl rfl, pre_std hPc hK hDc hN⟩ rfl rfl hl.1 rfl (lv_room (Nat.le_of_ble_eq_true rfl)) dX11_swap_37 ⟨Nat.le_of_ble_eq_true rfl, Nat.le_of_ble_eq_true rfl⟩) hS (fun q _ h => hFc q h) hFc (fun x_10 u9 t9 H1 locs ht hvm hw_10 hB hz1 hk1 hS => ?_)
        obtain ⟨hP1, hK1, hD1⟩ := hB
        rw [ht] at hP1
        clear hK1
        try dsimp only at hw_10
        have hpd9 : PDx (dC, dI) classes A H1 [oX11 h0 xp xtp xn xt xk xl xc xo xto xr xch ts ik st, cI aC ek 8 kf, cI aC ef 8 ff, cI aC ew 8 wf, cI aC ep 8 pf, cI aC es 5 stf, oX4 xt tek tef tew tep tes tsz tsy tdn, cI aC tek 8 tkf, cI aC tef 8 tff, cI aC tew 8 twf, cI aC tep 8 tpf, cI aC tes 5 tsf, cI aC xo 8 orf, cI aC xr 7 rf, oX4 xn ek ef ew ep es (nI n) (nI sn) dn] := jn_N (wr := [oX11 h0 xp xtp xn xt xk xl xc xo xto xr xch ts ik st, cI aC ek 8 kf, cI aC ef 8 ff, cI aC ew 8 wf, cI aC ep 8 pf, cI aC es 5 stf, oX4 xt tek tef tew tep tes tsz tsy tdn, cI aC tek 8 tkf, cI aC tef 8 tff, cI aC tew 8 twf, cI aC tep 8 tpf, cI aC tes 5 tsf, cI aC xo 8 orf, cI aC xr 7 rf]) hFc hk1 hP1 hD1 hP hD [14] [0, 1, 2, 3, 4, 5, 6, 7, 8, 9, 10, 11, 12, 13] rfl rfl (by decide) (by decide)
        have hP := hpd9.1
        have hD := hpd9.2
        clear hpd9
        generalize H1 = H at hP hS ⊢
        clear hPc hDc hFc hz1 hk1 hP1 hD1 ht hvm
        have hz_37 := hw_10
        refine lv_if_ne (tgt := 53) hx hb dX11_swap_40 (by decide) (fun c_11 => ?_) (fun c_11 => ?_)
        · refine lv_aload_n hx hb dX11_swap_53 rfl (lv_at hl 0 rfl) ?_
          refine lv_bipush (v := -3) hx hb dX11_swap_54 (by decide) ?_
          have hpd9 := pdf_N (cx := [oX11 h0 xp xtp xn xt xk xl xc xo xto xr xch ts ik st, cI aC xr 7 rf]) hP hD hS hA [0, 13] (by decide) rfl
          have hPc := hpd9.1
          have hDc := hpd9.2.1
          have hFc := hpd9.2.2
          clear hpd9
          refine va_calli (va_runV (As := [Value.int (-3)]) (rest := []) ⟨hx, hb, hml, hown, hts⟩ (c_X11_refuse l dC dI aC H.size h0 xp xtp xn xt xk xl xc xo xto xr xch ts ik st (-3) 3 rf (by decide) (by decide) (by decide) (by unfold vp_in; decide)) ⟨(callB_of 1 hts (gG kw_276) rfl rfl rfl (hts _ (gw kw_1 rfl)) (hts _ (gw kw_273 rfl)) hd_X11_refuse ⟨Nat.le_of_ble_eq_true rfl, Nat.le_of_ble_eq_true rfl⟩), (hts _ (gw kw_275 rfl)), (hts _ (gw ks_0 rfl))⟩ ⟨fb_std, va_recv (q := (RX11, TX11, 14)) hK hPc (ci := 11) (q0 := 0) rfl rfl, pre_std hPc hK hDc hN⟩ rfl rfl hl.1 rfl (lv_room (Nat.le_of_ble_eq_true rfl)) dX11_swap_56 ⟨Nat.le_of_ble_eq_true rfl, Nat.le_of_ble_eq_true rfl⟩) hS (fun q _ h => hFc q h) hFc (fun x_12 u9 t9 H1 locs ht hvm hw_12 hB hz1 hk1 hS => ?_)
          obtain ⟨u_13, rfl⟩ : ∃ z, z = u9 := ⟨_, rfl⟩
          obtain ⟨hP1, hK1, hD1⟩ := hB
          rw [ht] at hP1
          clear hK1
          try dsimp only at hw_12
          have hpd9 : PDx (dC, dI) classes A H1 [cI aC ek 8 kf, cI aC ef 8 ff, cI aC ew 8 wf, cI aC ep 8 pf, cI aC es 5 stf, oX4 xt tek tef tew tep tes tsz tsy tdn, cI aC tek 8 tkf, cI aC tef 8 tff, cI aC tew 8 twf, cI aC tep 8 tpf, cI aC tes 5 tsf, cI aC xo 8 orf, oX4 xn ek ef ew ep es (nI n) (nI sn) dn, oX11 h0 xp xtp xn xt xk xl xc xo xto xr xch ts ik st, cI aC xr 7 u_13] := jn_N (wr := [cI aC ek 8 kf, cI aC ef 8 ff, cI aC ew 8 wf, cI aC ep 8 pf, cI aC es 5 stf, oX4 xt tek tef tew tep tes tsz tsy tdn, cI aC tek 8 tkf, cI aC tef 8 tff, cI aC tew 8 twf, cI aC tep 8 tpf, cI aC tes 5 tsf, cI aC xo 8 orf, oX4 xn ek ef ew ep es (nI n) (nI sn) dn]) hFc hk1 hP1 hD1 hP hD [0, 13] [1, 2, 3, 4, 5, 6, 7, 8, 9, 10, 11, 12, 14] rfl rfl (by decide) (by decide)
          have hP := hpd9.1
          have hD := hpd9.2
          clear hpd9
          generalize H1 = H at hP hS ⊢
          clear hPc hDc hFc hz1 hk1 hP1 hD1 ht hvm
          obtain ⟨hv9, -⟩ := hw_12
          have hpd9 := pd_N (cx := [oX11 h0 xp xtp xn xt xk xl xc xo xto xr xch ts ik st, oX4 xn ek ef ew ep es (nI n) (nI sn) dn, cI aC ek 8 kf, cI aC ef 8 ff, cI aC ew 8 wf, cI aC ep 8 pf, cI aC es 5 stf, oX4 xt tek tef tew tep tes tsz tsy tdn, cI aC tek 8 tkf, cI aC tef 8 tff, cI aC tew 8 twf, cI aC tep 8 tpf, cI aC tes 5 tsf, cI aC xo 8 orf, cI aC xr 7 u_13]) hP hD [13, 12, 0, 1, 2, 3, 4, 5, 6, 7, 8, 9, 10, 11, 14] (by decide) rfl
          have hP9 := hpd9.1
          have hD9 := hpd9.2
          refine W.widen (k := 0) (n := 0) (by omega) (by omega) ?_
          exact W.iret (v := x_12) hx hb hr (fun t ht hW => ⟨⟨x_12, (st, tsz, tsy, tdn, kf, ff, wf, pf, stf, tkf, tff, twf, tpf, tsf, orf, u_13), rfl, ⟨by rw [hv9]; unfold rSwp; rw [if_pos ⟨OKI_nI hn8 ha8, OKI_nI hn8 hb8, c_9⟩, if_pos (Or.inl (ovx_y hn8 hev.2.2.2.2 hz_37 c_11))], fun q => absurd q (fun q => q.2.2.2.1 (ovx_y hn8 hev.2.2.2.2 hz_37 c_11)), fun _ => ⟨rfl, rfl, rfl, rfl, rfl, rfl⟩⟩, by rw [ht]; exact hP9, va_K.moved hW.alike hK, hD9⟩, hS.F ht⟩) hS.2.2 dX11_swap_59
        · refine lv_aload_n hx hb dX11_swap_43 rfl (lv_at hl 0 rfl) ?_
          refine va_get (D := (dC, dI)) (ci := 11) (v := Value.ref xn) (C := RX11) (T := TX11) (N := 14) hx hb hts inX11 hown hK hP 0 rfl rfl 2 (by decide) (hts _ (gw kw_228 rfl)) (fun _ h9 => h9) rfl dX11_swap_44 ?_
          refine va_get (D := (dC, dI)) (ci := 4) (v := Value.int (nI sn)) (C := RX4) (T := TX4) (N := 8) hx hb hts inX4 hown hK hP 14 rfl rfl 6 (by decide) (hts _ (gw kw_52 rfl)) (fun _ h9 => h9) rfl dX11_swap_47 ?_
          refine lv_if_le (tgt := 60) hx hb dX11_swap_50 (by decide) (fun c_14 => ?_) (fun c_14 => ?_)
          · have hov := ovx_n hz_37 c_11
            have hs0 : sn = 0 := by
              rcases Nat.eq_zero_or_pos sn with e | e
              · exact e
              · exact absurd (nI_lt (a := 0) e (by have := sn_le hev; omega)) (Int32.not_lt.mpr c_14)
            refine lv_aload_n hx hb dX11_swap_60 rfl (lv_at hl 0 rfl) ?_
            have hpd9 := pdf_N (cx := [oX11 h0 xp xtp xn xt xk xl xc xo xto xr xch ts ik st, oX4 xn ek ef ew ep es (nI n) (nI sn) dn, cI aC xo 8 orf]) hP hD hS hA [0, 14, 12] (by decide) rfl
            have hPc := hpd9.1
            have hDc := hpd9.2.1
            have hFc := hpd9.2.2
            clear hpd9
            refine va_callv (va_runV (As := []) (rest := []) ⟨hx, hb, hml, hown, hts⟩ (c_X11_orderAsIs l dC dI aC H.size h0 xp xtp xn xt xk xl xc xo xto xr xch ts ik st ek ef ew ep es n sn dn orf (hn8)) ⟨(callB_of 0 hts (gG kw_617) rfl rfl rfl (hts _ (gw kw_1 rfl)) (hts _ (gw kw_614 rfl)) hd_X11_orderAsIs ⟨Nat.le_of_ble_eq_true rfl, Nat.le_of_ble_eq_true rfl⟩), (hts _ (gw kw_616 rfl)), (hts _ (gw ks_26 rfl))⟩ ⟨fb_std, va_recv (q := (RX11, TX11, 14)) hK hPc (ci := 11) (q0 := 0) rfl rfl, pre_std hPc hK hDc hN⟩ rfl rfl hl.1 rfl (lv_room (Nat.le_of_ble_eq_true rfl)) dX11_swap_61 ⟨Nat.le_of_ble_eq_true rfl, Nat.le_of_ble_eq_true rfl⟩) hS (fun q _ h => hFc q h) hFc (fun u9 t9 H1 locs ht hvm hw_15 hB hz1 hk1 hS => ?_)
            obtain ⟨u_16, rfl⟩ : ∃ z, z = u9 := ⟨_, rfl⟩
            obtain ⟨hP1, hK1, hD1⟩ := hB
            rw [ht] at hP1
            clear hK1
            try dsimp only at hw_15
            have hpd9 : PDx (dC, dI) classes A H1 [cI aC ek 8 kf, cI aC ef 8 ff, cI aC ew 8 wf, cI aC ep 8 pf, cI aC es 5 stf, oX4 xt tek tef tew tep tes tsz tsy tdn, cI aC tek 8 tkf, cI aC tef 8 tff, cI aC tew 8 twf, cI aC tep 8 tpf, cI aC tes 5 tsf, cI aC xr 7 rf, oX11 h0 xp xtp xn xt xk xl xc xo xto xr xch ts ik st, oX4 xn ek ef ew ep es (nI n) (nI sn) dn, cI aC xo 8 u_16] := jn_N (wr := [cI aC ek 8 kf, cI aC ef 8 ff, cI aC ew 8 wf, cI aC ep 8 pf, cI aC es 5 stf, oX4 xt tek tef tew tep tes tsz tsy tdn, cI aC tek 8 tkf, cI aC tef 8 tff, cI aC tew 8 twf, cI aC tep 8 tpf, cI aC tes 5 tsf, cI aC xr 7 rf]) hFc hk1 hP1 hD1 hP hD [0, 14, 12] [1, 2, 3, 4, 5, 6, 7, 8, 9, 10, 11, 13] rfl rfl (by decide) (by decide)
            have hP := hpd9.1
            have hD := hpd9.2
            clear hpd9
            generalize H1 = H at hP hS ⊢
            clear hPc hDc hFc hz1 hk1 hP1 hD1 ht hvm
            have hor := hw_15
            refine lv_aload_n hx hb dX11_swap_64 rfl (lv_at hl 0 rfl) ?_
            refine va_get (D := (dC, dI)) (ci := 11) (v := Value.ref xo) (C := RX11) (T := TX11) (N := 14) hx hb hts inX11 hown hK hP 12 rfl rfl 7 (by decide) (hts _ (gw kw_233 rfl)) (fun _ h9 => h9) rfl dX11_swap_65 ?_
            refine lv_iload_n hx hb dX11_swap_68 rfl (lv_at hl 1 rfl) ?_
            refine lv_iload_n hx hb dX11_swap_69 rfl (lv_at hl 2 rfl) ?_
            have h_17 : vp_in (nI a) 8 := vp_in_nI (by omega) (by omega)
            refine va_iast hx hb hK hP hD hS 14 0 rfl rfl h_17 dX11_swap_70 (fun H locs hP hD hS => ?_)
            obtain ⟨f_18, e_f_18⟩ : ∃ y : Nat → Int32, y = upd u_16 (nI a : Int32).toNatClampNeg (nI b) := ⟨_, rfl⟩
            have hpd9 : PDx (dC, dI) classes A H [cI aC ek 8 kf, cI aC ef 8 ff, cI aC ew 8 wf, cI aC ep 8 pf, cI aC es 5 stf, oX4 xt tek tef tew tep tes tsz tsy tdn, cI aC tek 8 tkf, cI aC tef 8 tff, cI aC tew 8 twf, cI aC tep 8 tpf, cI aC tes 5 tsf, cI aC xr 7 rf, oX11 h0 xp xtp xn xt xk xl xc xo xto xr xch ts ik st, oX4 xn ek ef ew ep es (nI n) (nI sn) dn, cI aC xo 8 f_18] := by rw [e_f_18]; exact ⟨hP, hD⟩
            have hP := hpd9.1
            have hD := hpd9.2
            clear hpd9
            refine lv_aload_n hx hb dX11_swap_71 rfl (lv_at hl 0 rfl) ?_
            refine va_get (D := (dC, dI)) (ci := 11) (v := Value.ref xo) (C := RX11) (T := TX11) (N := 14) hx hb hts inX11 hown hK hP 12 rfl rfl 7 (by decide) (hts _ (gw kw_233 rfl)) (fun _ h9 => h9) rfl dX11_swap_72 ?_
            refine lv_iload_n hx hb dX11_swap_75 rfl (lv_at hl 2 rfl) ?_
            refine lv_iload_n hx hb dX11_swap_76 rfl (lv_at hl 1 rfl) ?_
            have h_19 : vp_in (nI b) 8 := vp_in_nI (by omega) (by omega)
            refine va_iast hx hb hK hP hD hS 14 0 rfl rfl h_19 dX11_swap_77 (fun H locs hP hD hS => ?_)
            obtain ⟨f_20, e_f_20⟩ : ∃ y : Nat → Int32, y = upd f_18 (nI b : Int32).toNatClampNeg (nI a) := ⟨_, rfl⟩
            have hpd9 : PDx (dC, dI) classes A H [cI aC ek 8 kf, cI aC ef 8 ff, cI aC ew 8 wf, cI aC ep 8 pf, cI aC es 5 stf, oX4 xt tek tef tew tep tes tsz tsy tdn, cI aC tek 8 tkf, cI aC tef 8 tff, cI aC tew 8 twf, cI aC tep 8 tpf, cI aC tes 5 tsf, cI aC xr 7 rf, oX11 h0 xp xtp xn xt xk xl xc xo xto xr xch ts ik st, oX4 xn ek ef ew ep es (nI n) (nI sn) dn, cI aC xo 8 f_20] := by rw [e_f_20]; exact ⟨hP, hD⟩
            have hP := hpd9.1
            have hD := hpd9.2
            clear hpd9
            have hord : ∀ q, q < n → f_20 q = nI (swq a b q) := fun q hq => by rw [e_f_20, nI_clamp (by omega), e_f_18, nI_clamp (by omega)]; exact SW_or hor hq
            refine lv_aload_n hx hb dX11_swap_78 rfl (lv_at hl 0 rfl) ?_
            have hpd9 := pdf_N (cx := [oX11 h0 xp xtp xn xt xk xl xc xo xto xr xch ts ik st, oX4 xn ek ef ew ep es (nI n) (nI sn) dn, cI aC ek 8 kf, cI aC ef 8 ff, cI aC ew 8 wf, cI aC ep 8 pf, cI aC es 5 stf, oX4 xt tek tef tew tep tes tsz tsy tdn, cI aC tek 8 tkf, cI aC tef 8 tff, cI aC tew 8 twf, cI aC tep 8 tpf, cI aC tes 5 tsf, cI aC xo 8 f_20]) hP hD hS hA [12, 13, 0, 1, 2, 3, 4, 5, 6, 7, 8, 9, 10, 14] (by decide) rfl
            have hPc := hpd9.1
            have hDc := hpd9.2.1
            have hFc := hpd9.2.2
            clear hpd9
            refine va_callv (va_runV (As := []) (rest := []) ⟨hx, hb, hml, hown, hts⟩ (c_X11_seat l dC dI aC H.size h0 xp xtp xn xt xk xl xc xo xto xr xch ts ik st ek ef ew ep es n sn dn kf ff wf pf stf tek tef tew tep tes tsz tsy tdn tkf tff twf tpf tsf f_20 tG (hn8) (hev.2.2.2.2)) ⟨(callB_of 0 hts (gG kw_621) rfl rfl rfl (hts _ (gw kw_1 rfl)) (hts _ (gw kw_618 rfl)) hd_X11_seat ⟨Nat.le_of_ble_eq_true rfl, Nat.le_of_ble_eq_true rfl⟩), (hts _ (gw kw_620 rfl)), (hts _ (gw ks_27 rfl))⟩ ⟨fun a U g mk q => by obtain ⟨q0, q1, qP, qK, qD, qN, z0, z1⟩ := q; exact ⟨q0, q1, qP, va_K.moved (u := U) (U := U.calling g mk a) (Vm.Alike.refl U.vm) qK, qD, NX.same (u := U) (U := U.calling g mk a) rfl qN, va_Z.moved (u := U) (U := U.calling g mk a) (Vm.Alike.refl U.vm) z0, va_T.moved (u := U) (U := U.calling g mk a) (Vm.Alike.refl U.vm) z1⟩, va_recv (q := (RX11, TX11, 14)) hK hPc (ci := 11) (q0 := 0) rfl rfl, fun U hU hW => ⟨rfl, by rw [hU], by rw [hU]; exact hPc, va_K.moved hW.alike hK, hDc.weaken (fun _ _ _ _ => trivial), NX.warm hW hN, by rw [hU]; exact va_Z.moved hW.alike (va_Z.narrow (va_Z.kept hZG hS.2.1) hFc), by rw [hU]; exact va_T.moved hW.alike (va_T.narrow (va_T.kept hTG hS.2.1) hFc)⟩⟩ rfl rfl hl.1 rfl (lv_room (Nat.le_of_ble_eq_true rfl)) dX11_swap_79 ⟨Nat.le_of_ble_eq_true rfl, Nat.le_of_ble_eq_true rfl⟩) hS (fun q _ h => hFc q h) hFc (fun u9 t9 H1 locs ht hvm hw_21 hB hz1 hk1 hS => ?_)
            obtain ⟨u_22, u_23, u_24, u_25, u_26⟩ := u9
            obtain ⟨hP1, hK1, hD1⟩ := hB
            rw [ht] at hP1
            clear hK1
            try dsimp only at hw_21
            have hpd9 : PDx (dC, dI) classes A H1 [cI aC xr 7 rf, oX11 h0 xp xtp xn xt xk xl xc xo xto xr xch ts ik st, oX4 xn ek ef ew ep es (nI n) (nI sn) dn, cI aC ek 8 kf, cI aC ef 8 ff, cI aC ew 8 wf, cI aC ep 8 pf, cI aC es 5 stf, oX4 xt tek tef tew tep tes (nI n) (nI sn) dn, cI aC tek 8 u_22, cI aC tef 8 u_23, cI aC tew 8 u_24, cI aC tep 8 u_25, cI aC tes 5 u_26, cI aC xo 8 f_20] := jn_N (wr := [cI aC xr 7 rf]) hFc hk1 hP1 hD1 hP hD [12, 13, 0, 1, 2, 3, 4, 5, 6, 7, 8, 9, 10, 14] [11] rfl rfl (by decide) (by decide)
            have hP := hpd9.1
            have hD := hpd9.2
            clear hpd9
            generalize H1 = H at hP hS ⊢
            clear hPc hDc hFc hz1 hk1 hP1 hD1 ht hvm
            have hc8 := hw_21
            refine lv_aload_n hx hb dX11_swap_82 rfl (lv_at hl 0 rfl) ?_
            refine va_get (D := (dC, dI)) (ci := 11) (v := Value.ref xn) (C := RX11) (T := TX11) (N := 14) hx hb hts inX11 hown hK hP 1 rfl rfl 2 (by decide) (hts _ (gw kw_228 rfl)) (fun _ h9 => h9) rfl dX11_swap_83 ?_
            refine lv_aload_n hx hb dX11_swap_86 rfl (lv_at hl 0 rfl) ?_
            refine va_get (D := (dC, dI)) (ci := 11) (v := Value.ref xt) (C := RX11) (T := TX11) (N := 14) hx hb hts inX11 hown hK hP 1 rfl rfl 3 (by decide) (hts _ (gw kw_229 rfl)) (fun _ h9 => h9) rfl dX11_swap_87 ?_
            have hpd9 := pdf_N (cx := [oX4 xn ek ef ew ep es (nI n) (nI sn) dn, cI aC ek 8 kf, cI aC ef 8 ff, cI aC ew 8 wf, cI aC ep 8 pf, cI aC es 5 stf, oX4 xt tek tef tew tep tes (nI n) (nI sn) dn, cI aC tek 8 u_22, cI aC tef 8 u_23, cI aC tew 8 u_24, cI aC tep 8 u_25, cI aC tes 5 u_26]) hP hD hS hA [2, 3, 4, 5, 6, 7, 8, 9, 10, 11, 12, 13] (by decide) rfl
            have hPc := hpd9.1
            have hDc := hpd9.2.1
            have hFc := hpd9.2.2
            clear hpd9
            refine va_callv (va_runV (As := [Value.ref xt]) (rest := []) ⟨hx, hb, hml, hown, hts⟩ (c_X4_copy l dC dI aC H.size xn xt ek ef ew ep es tek tef tew tep tes (nI n) (nI sn) dn (nI n) (nI sn) dn kf ff wf pf stf u_22 u_23 u_24 u_25 u_26 tG (hev.2.2.2.2)) ⟨(callB_of 1 hts (gG kw_598) rfl rfl rfl (hts _ (gw kw_2 rfl)) (hts _ (gw kw_595 rfl)) hd_X4_copy ⟨Nat.le_of_ble_eq_true rfl, Nat.le_of_ble_eq_true rfl⟩), (hts _ (gw kw_596 rfl)), (hts _ (gw kw_597 rfl))⟩ ⟨fun a U g mk q => by obtain ⟨q0, q1, qP, qK, qD, qN, z0, z1⟩ := q; exact ⟨q0, q1, qP, va_K.moved (u := U) (U := U.calling g mk a) (Vm.Alike.refl U.vm) qK, qD, NX.same (u := U) (U := U.calling g mk a) rfl qN, va_Z.moved (u := U) (U := U.calling g mk a) (Vm.Alike.refl U.vm) z0, va_T.moved (u := U) (U := U.calling g mk a) (Vm.Alike.refl U.vm) z1⟩, va_recv (q := (RX4, TX4, 8)) hK hPc (ci := 4) (q0 := 0) rfl rfl, fun U hU hW => ⟨rfl, by rw [hU], by rw [hU]; exact hPc, va_K.moved hW.alike hK, hDc.weaken (fun _ _ _ _ => trivial), NX.warm hW hN, by rw [hU]; exact va_Z.moved hW.alike (va_Z.narrow (va_Z.kept hZG hS.2.1) hFc), by rw [hU]; exact va_T.moved hW.alike (va_T.narrow (va_T.kept hTG hS.2.1) hFc)⟩⟩ rfl rfl hl.1 rfl (lv_room (Nat.le_of_ble_eq_true rfl)) dX11_swap_90 ⟨Nat.le_of_ble_eq_true rfl, Nat.le_of_ble_eq_true rfl⟩) hS (fun q _ h => hFc q h) hFc (fun u9 t9 H1 locs ht hvm hw_27 hB hz1 hk1 hS => ?_)
            obtain ⟨u_28, u_29, u_30, u_31, u_32⟩ := u9
            obtain ⟨hP1, hK1, hD1⟩ := hB
            rw [ht] at hP1
            clear hK1
            try dsimp only at hw_27
            have hpd9 : PDx (dC, dI) classes A H1 [cI aC xr 7 rf, oX11 h0 xp xtp xn xt xk xl xc xo xto xr xch ts ik st, cI aC xo 8 f_20, oX4 xn ek ef ew ep es (nI n) (nI sn) dn, cI aC ek 8 u_28, cI aC ef 8 u_29, cI aC ew 8 u_30, cI aC ep 8 u_31, cI aC es 5 u_32, oX4 xt tek tef tew tep tes (nI n) (nI sn) dn, cI aC tek 8 u_22, cI aC tef 8 u_23, cI aC tew 8 u_24, cI aC tep 8 u_25, cI aC tes 5 u_26] := jn_N (wr := [cI aC xr 7 rf, oX11 h0 xp xtp xn xt xk xl xc xo xto xr xch ts ik st, cI aC xo 8 f_20]) hFc hk1 hP1 hD1 hP hD [2, 3, 4, 5, 6, 7, 8, 9, 10, 11, 12, 13] [0, 1, 14] rfl rfl (by decide) (by decide)
            have hP := hpd9.1
            have hD := hpd9.2
            clear hpd9
            generalize H1 = H at hP hS ⊢
            clear hPc hDc hFc hz1 hk1 hP1 hD1 ht hvm
            have hc9 := hw_27
            refine lv_aload_n hx hb dX11_swap_93 rfl (lv_at hl 0 rfl) ?_
            refine lv_iconst (v := 1) hx hb dX11_swap_94 (by decide) ?_
            refine va_put (D := (dC, dI)) (ci := 11) (v := Value.int 1) (ty := .boolean) (C := RX11) (T := TX11) (N := 14) hx hb hts inX11 tyX11 tyX11_ok nmX11 hown hK hP hD hS 1 rfl rfl 13 (by decide) (hts _ (gw kw_239 rfl)) (fun _ h9 => h9) rfl (by decide +kernel) rfl rfl (Nat.le_of_ble_eq_true rfl) dX11_swap_95 (fun H locs hP hD hS => ?_)
            have hpd9 : PDx (dC, dI) classes A H [cI aC xr 7 rf, oX11 h0 xp xtp xn xt xk xl xc xo xto xr xch ts ik 1, cI aC xo 8 f_20, oX4 xn ek ef ew ep es (nI n) (nI sn) dn, cI aC ek 8 u_28, cI aC ef 8 u_29, cI aC ew 8 u_30, cI aC ep 8 u_31, cI aC es 5 u_32, oX4 xt tek tef tew tep tes (nI n) (nI sn) dn, cI aC tek 8 u_22, cI aC tef 8 u_23, cI aC tew 8 u_24, cI aC tep 8 u_25, cI aC tes 5 u_26] := ⟨hP, hD⟩
            have hP := hpd9.1
            have hD := hpd9.2
            clear hpd9
            refine lv_iconst (v := 1) hx hb dX11_swap_98 (by decide) ?_
            have hpd9 := pd_N (cx := [oX11 h0 xp xtp xn xt xk xl xc xo xto xr xch ts ik 1, oX4 xn ek ef ew ep es (nI n) (nI sn) dn, cI aC ek 8 u_28, cI aC ef 8 u_29, cI aC ew 8 u_30, cI aC ep 8 u_31, cI aC es 5 u_32, oX4 xt tek tef tew tep tes (nI n) (nI sn) dn, cI aC tek 8 u_22, cI aC tef 8 u_23, cI aC tew 8 u_24, cI aC tep 8 u_25, cI aC tes 5 u_26, cI aC xo 8 f_20, cI aC xr 7 rf]) hP hD [1, 3, 4, 5, 6, 7, 8, 9, 10, 11, 12, 13, 14, 2, 0] (by decide) rfl
            have hP9 := hpd9.1
            have hD9 := hpd9.2
            refine W.widen (k := 0) (n := 0) (by omega) (by omega) ?_
            exact W.iret (v := 1) hx hb hr (fun t ht hW => ⟨⟨1, (1, (nI n), (nI sn), dn, u_28, u_29, u_30, u_31, u_32, u_22, u_23, u_24, u_25, u_26, f_20, rf), rfl, ⟨by unfold rSwp; rw [if_pos ⟨OKI_nI hn8 ha8, OKI_nI hn8 hb8, c_9⟩, if_neg (fun q => q.elim hov (fun z => by omega))], fun _ => ⟨rfl, SW_ev hev hn8 ha8 hb8 hord hc8 hc9, SW_pf hc8 hc9⟩, fun q => absurd ⟨OKI_nI hn8 ha8, OKI_nI hn8 hb8, c_9, hov, hs0⟩ q⟩, by rw [ht]; exact hP9, va_K.moved hW.alike hK, hD9⟩, hS.F ht⟩) hS.2.2 dX11_swap_99
          · refine lv_aload_n hx hb dX11_swap_53 rfl (lv_at hl 0 rfl) ?_
            refine lv_bipush (v := -3) hx hb dX11_swap_54 (by decide) ?_
            have hpd9 := pdf_N (cx := [oX11 h0 xp xtp xn xt xk xl xc xo xto xr xch ts ik st, cI aC xr 7 rf]) hP hD hS hA [0, 13] (by decide) rfl
            have hPc := hpd9.1
            have hDc := hpd9.2.1
            have hFc := hpd9.2.2
            clear hpd9
            refine va_calli (va_runV (As := [Value.int (-3)]) (rest := []) ⟨hx, hb, hml, hown, hts⟩ (c_X11_refuse l dC dI aC H.size h0 xp xtp xn xt xk xl xc xo xto xr xch ts ik st (-3) 3 rf (by decide) (by decide) (by decide) (by unfold vp_in; decide)) ⟨(callB_of 1 hts (gG kw_276) rfl rfl rfl (hts _ (gw kw_1 rfl)) (hts _ (gw kw_273 rfl)) hd_X11_refuse ⟨Nat.le_of_ble_eq_true rfl, Nat.le_of_ble_eq_true rfl⟩), (hts _ (gw kw_275 rfl)), (hts _ (gw ks_0 rfl))⟩ ⟨fb_std, va_recv (q := (RX11, TX11, 14)) hK hPc (ci := 11) (q0 := 0) rfl rfl, pre_std hPc hK hDc hN⟩ rfl rfl hl.1 rfl (lv_room (Nat.le_of_ble_eq_true rfl)) dX11_swap_56 ⟨Nat.le_of_ble_eq_true rfl, Nat.le_of_ble_eq_true rfl⟩) hS (fun q _ h => hFc q h) hFc (fun x_33 u9 t9 H1 locs ht hvm hw_33 hB hz1 hk1 hS => ?_)
            obtain ⟨u_34, rfl⟩ : ∃ z, z = u9 := ⟨_, rfl⟩
            obtain ⟨hP1, hK1, hD1⟩ := hB
            rw [ht] at hP1
            clear hK1
            try dsimp only at hw_33
            have hpd9 : PDx (dC, dI) classes A H1 [cI aC ek 8 kf, cI aC ef 8 ff, cI aC ew 8 wf, cI aC ep 8 pf, cI aC es 5 stf, oX4 xt tek tef tew tep tes tsz tsy tdn, cI aC tek 8 tkf, cI aC tef 8 tff, cI aC tew 8 twf, cI aC tep 8 tpf, cI aC tes 5 tsf, cI aC xo 8 orf, oX4 xn ek ef ew ep es (nI n) (nI sn) dn, oX11 h0 xp xtp xn xt xk xl xc xo xto xr xch ts ik st, cI aC xr 7 u_34] := jn_N (wr := [cI aC ek 8 kf, cI aC ef 8 ff, cI aC ew 8 wf, cI aC ep 8 pf, cI aC es 5 stf, oX4 xt tek tef tew tep tes tsz tsy tdn, cI aC tek 8 tkf, cI aC tef 8 tff, cI aC tew 8 twf, cI aC tep 8 tpf, cI aC tes 5 tsf, cI aC xo 8 orf, oX4 xn ek ef ew ep es (nI n) (nI sn) dn]) hFc hk1 hP1 hD1 hP hD [0, 13] [1, 2, 3, 4, 5, 6, 7, 8, 9, 10, 11, 12, 14] rfl rfl (by decide) (by decide)
            have hP := hpd9.1
            have hD := hpd9.2
            clear hpd9
            generalize H1 = H at hP hS ⊢
            clear hPc hDc hFc hz1 hk1 hP1 hD1 ht hvm
            obtain ⟨hv9, -⟩ := hw_33
            have hpd9 := pd_N (cx := [oX11 h0 xp xtp xn xt xk xl xc xo xto xr xch ts ik st, oX4 xn ek ef ew ep es (nI n) (nI sn) dn, cI aC ek 8 kf, cI aC ef 8 ff, cI aC ew 8 wf, cI aC ep 8 pf, cI aC es 5 stf, oX4 xt tek tef tew tep tes tsz tsy tdn, cI aC tek 8 tkf, cI aC tef 8 tff, cI aC tew 8 twf, cI aC tep 8 tpf, cI aC tes 5 tsf, cI aC xo 8 orf, cI aC xr 7 u_34]) hP hD [13, 12, 0, 1, 2, 3, 4, 5, 6, 7, 8, 9, 10, 11, 14] (by decide) rfl
            have hP9 := hpd9.1
            have hD9 := hpd9.2
            refine W.widen (k := 0) (n := 0) (by omega) (by omega) ?_
            exact W.iret (v := x_33) hx hb hr (fun t ht hW => ⟨⟨x_33, (st, tsz, tsy, tdn, kf, ff, wf, pf, stf, tkf, tff, twf, tpf, tsf, orf, u_34), rfl, ⟨by rw [hv9]; unfold rSwp; rw [if_pos ⟨OKI_nI hn8 ha8, OKI_nI hn8 hb8, c_9⟩, if_pos (Or.inr (by rcases Nat.eq_zero_or_pos sn with e | e <;> first | (subst e; exact absurd (show nI 0 ≤ 0 from by decide) c_14) | exact e))], fun q => absurd q (fun q => by have h6 : 0 < sn := (by rcases Nat.eq_zero_or_pos sn with e | e <;> first | (subst e; exact absurd (show nI 0 ≤ 0 from by decide) c_14) | exact e); have := q.2.2.2.2; omega), fun _ => ⟨rfl, rfl, rfl, rfl, rfl, rfl⟩⟩, by rw [ht]; exact hP9, va_K.moved hW.alike hK, hD9⟩, hS.F ht⟩) hS.2.2 dX11_swap_59
      · refine lv_aload_n hx hb dX11_swap_27 rfl (lv_at hl 0 rfl) ?_
        refine lv_iconst (v := -1) hx hb dX11_swap_28 (by decide) ?_
        have hpd9 := pdf_N (cx := [oX11 h0 xp xtp xn xt xk xl xc xo xto xr xch ts ik st, cI aC xr 7 rf]) hP hD hS hA [0, 13] (by decide) rfl
        have hPc := hpd9.1
        have hDc := hpd9.2.1
        have hFc := hpd9.2.2
        clear hpd9
        refine va_calli (va_runV (As := [Value.int (-1)]) (rest := []) ⟨hx, hb, hml, hown, hts⟩ (c_X11_refuse l dC dI aC H.size h0 xp xtp xn xt xk xl xc xo xto xr xch ts ik st (-1) 1 rf (by decide) (by decide) (by decide) (by unfold vp_in; decide)) ⟨(callB_of 1 hts (gG kw_276) rfl rfl rfl (hts _ (gw kw_1 rfl)) (hts _ (gw kw_273 rfl)) hd_X11_refuse ⟨Nat.le_of_ble_eq_true rfl, Nat.le_of_ble_eq_true rfl⟩), (hts _ (gw kw_275 rfl)), (hts _ (gw ks_0 rfl))⟩ ⟨fb_std, va_recv (q := (RX11, TX11, 14)) hK hPc (ci := 11) (q0 := 0) rfl rfl, pre_std hPc hK hDc hN⟩ rfl rfl hl.1 rfl (lv_room (Nat.le_of_ble_eq_true rfl)) dX11_swap_29 ⟨Nat.le_of_ble_eq_true rfl, Nat.le_of_ble_eq_true rfl⟩) hS (fun q _ h => hFc q h) hFc (fun x_35 u9 t9 H1 locs ht hvm hw_35 hB hz1 hk1 hS => ?_)
        obtain ⟨u_36, rfl⟩ : ∃ z, z = u9 := ⟨_, rfl⟩
        obtain ⟨hP1, hK1, hD1⟩ := hB
        rw [ht] at hP1
        clear hK1
        try dsimp only at hw_35
        have hpd9 : PDx (dC, dI) classes A H1 [cI aC ek 8 kf, cI aC ef 8 ff, cI aC ew 8 wf, cI aC ep 8 pf, cI aC es 5 stf, oX4 xt tek tef tew tep tes tsz tsy tdn, cI aC tek 8 tkf, cI aC tef 8 tff, cI aC tew 8 twf, cI aC tep 8 tpf, cI aC tes 5 tsf, cI aC xo 8 orf, oX4 xn ek ef ew ep es (nI n) (nI sn) dn, oX11 h0 xp xtp xn xt xk xl xc xo xto xr xch ts ik st, cI aC xr 7 u_36] := jn_N (wr := [cI aC ek 8 kf, cI aC ef 8 ff, cI aC ew 8 wf, cI aC ep 8 pf, cI aC es 5 stf, oX4 xt tek tef tew tep tes tsz tsy tdn, cI aC tek 8 tkf, cI aC tef 8 tff, cI aC tew 8 twf, cI aC tep 8 tpf, cI aC tes 5 tsf, cI aC xo 8 orf, oX4 xn ek ef ew ep es (nI n) (nI sn) dn]) hFc hk1 hP1 hD1 hP hD [0, 13] [1, 2, 3, 4, 5, 6, 7, 8, 9, 10, 11, 12, 14] rfl rfl (by decide) (by decide)
        have hP := hpd9.1
        have hD := hpd9.2
        clear hpd9
        generalize H1 = H at hP hS ⊢
        clear hPc hDc hFc hz1 hk1 hP1 hD1 ht hvm
        obtain ⟨hv9, -⟩ := hw_35
        have hpd9 := pd_N (cx := [oX11 h0 xp xtp xn xt xk xl xc xo xto xr xch ts ik st, oX4 xn ek ef ew ep es (nI n) (nI sn) dn, cI aC ek 8 kf, cI aC ef 8 ff, cI aC ew 8 wf, cI aC ep 8 pf, cI aC es 5 stf, oX4 xt tek tef tew tep tes tsz tsy tdn, cI aC tek 8 tkf, cI aC tef 8 tff, cI aC tew 8 twf, cI aC tep 8 tpf, cI aC tes 5 tsf, cI aC xo 8 orf, cI aC xr 7 u_36]) hP hD [13, 12, 0, 1, 2, 3, 4, 5, 6, 7, 8, 9, 10, 11, 14] (by decide) rfl
        have hP9 := hpd9.1
        have hD9 := hpd9.2
        refine W.widen (k := 0) (n := 0) (by omega) (by omega) ?_
        exact W.iret (v := x_35) hx hb hr (fun t ht hW => ⟨⟨x_35, (st, tsz, tsy, tdn, kf, ff, wf, pf, stf, tkf, tff, twf, tpf, tsf, orf, u_36), rfl, ⟨by rw [hv9]; unfold rSwp; rw [if_neg (fun q => q.2.2 c_9)], fun q => absurd q (fun q => q.2.2.1 c_9), fun _ => ⟨rfl, rfl, rfl, rfl, rfl, rfl⟩⟩, by rw [ht]; exact hP9, va_K.moved hW.alike hK, hD9⟩, hS.F ht⟩) hS.2.2 dX11_swap_32

end

section
/-! 68.xtr2 -/
/-- the rows of the other plan are apart -/
def DIS (ro rp rs so sp ss : Nat → Nat) : Prop := ∀ q, q < 8 → OFF so sp ss (ro q) ∧ OFF so sp ss (rp q) ∧ OFF so sp ss (rs q)
theorem MAT_fr {n : Nat} {pl : PLT} {ro rp rs so sp ss : Nat → Nat} {g g2 : Nat → Nat → Int32} {yf ef bf : Nat → Int32} {i : Nat} (hi : i < 8) (h : MAT n pl ro rp rs g yf ef bf i) (hd : DIS ro rp rs so sp ss) (hg : ∀ a, OFF so sp ss a → g2 a = g a) : MAT n pl ro rp rs g2 yf ef bf i := by
  obtain ⟨h1, h2, h3, h4⟩ := h
  obtain ⟨d1, d2, d3⟩ := hd i hi
  exact ⟨fun q q1 q2 => by rw [hg _ d2]; exact h1 q q1 q2, fun q q1 => by rw [hg _ d1]; exact h2 q q1, fun q q1 => by rw [hg _ d3]; exact h3 q q1, h4⟩
theorem STL_fr {st : Int32} {n : Nat} {pl : PLT} {ro rp rs so sp ss : Nat → Nat} {g g2 : Nat → Nat → Int32} {yf ef bf : Nat → Int32} (hn : n ≤ 8) (h : STL st n pl ro rp rs g yf ef bf) (hd : DIS ro rp rs so sp ss) (hg : ∀ a, OFF so sp ss a → g2 a = g a) : STL st n pl ro rp rs g2 yf ef bf := by
  rcases h with h | ⟨h1, h2⟩
  · exact Or.inl h
  · exact Or.inr ⟨h1, fun i hi => MAT_fr (by omega) (h2 i hi) hd hg⟩
def blS (S5 : Nat → Nat) (a b : Nat) (k : Nat) : Nat := if k = 1 then a else if k = 2 then b else S5 k
def coS (S5 : Nat → Nat) (c : Nat) (k : Nat) : Nat := if k = 0 then c else S5 k
theorem EVS_bl {n sn a b : Nat} {dn : Int32} {K F W S5 : Nat → Nat} {kf ff wf stf s2 : Nat → Int32} (h : EVS n sn dn K F W S5 kf ff wf stf) (ha : a ≤ 2) (hb : b ≤ 1) (h2 : ∀ k, k < 5 → s2 k = if k = 1 then nI a else if k = 2 then nI b else stf k) : EVS n sn dn K F W (blS S5 a b) kf ff wf s2 := by
  obtain ⟨⟨e1, e2, e3, e4⟩, f1, ⟨f2, f3, f4, f5⟩, f6⟩ := h
  refine ⟨⟨e1, e2, ?_, e4⟩, fun k hk => ?_, ⟨?_, ?_, ?_, ?_⟩, f6⟩
  · rw [h2 0 (by omega), if_neg (by omega), if_neg (by omega)]; exact e3
  · rw [h2 k hk]
    unfold blS
    by_cases q1 : k = 1
    · rw [if_pos q1, if_pos q1]
    · rw [if_neg q1, if_neg q1]
      by_cases q2 : k = 2
      · rw [if_pos q2, if_pos q2]
      · rw [if_neg q2, if_neg q2]; exact f1 k hk
  · exact ha
  · exact hb
  · exact f4
  · exact f5
theorem EVS_co {n sn c : Nat} {dn : Int32} {K F W S5 : Nat → Nat} {kf ff wf stf s2 : Nat → Int32} (h : EVS n sn dn K F W S5 kf ff wf stf) (hc : c ≤ 99) (h2 : ∀ k, k < 5 → s2 k = if k = 0 then nI c else stf k) : EVS n sn dn K F W (coS S5 c) kf ff wf s2 := by
  obtain ⟨⟨e1, e2, e3, e4⟩, f1, ⟨f2, f3, f4, f5⟩, f6⟩ := h
  refine ⟨⟨e1, hc, by rw [h2 0 (by omega), if_pos rfl]; rfl, e4⟩, fun k hk => ?_, ⟨f2, f3, f4, f5⟩, f6⟩
  rw [h2 k hk]
  unfold coS
  by_cases q1 : k = 0
  · rw [if_pos q1, if_pos q1]
  · rw [if_neg q1, if_neg q1]; exact f1 k hk
abbrev BLK (a b : Int32) : Prop := ¬ a < 0 ∧ ¬ 2 < a ∧ ¬ b < 0 ∧ ¬ 1 < b
theorem BLK_ix {a b : Int32} (h : BLK a b) : ∃ x y, x ≤ 2 ∧ y ≤ 1 ∧ a = nI x ∧ b = nI y := by
  obtain ⟨x, x1, x2⟩ := ix_of (n := 3) (by omega) h.1 (fun z => h.2.1 (Int32.lt_of_lt_of_le (by decide) z))
  obtain ⟨y, y1, y2⟩ := ix_of (n := 2) (by omega) h.2.2.1 (fun z => h.2.2.2 (Int32.lt_of_lt_of_le (by decide) z))
  exact ⟨x, y, by omega, by omega, x2, y2⟩
noncomputable def rByL (n sn : Nat) (dn : Int32) (K F W S5 : Nat → Nat) (a b j : Int32) : Int32 := if BLK a b then (if OKI n j ∧ ¬ j < nI sn then (if OVR n dn then 1000000003 else iI (zS (PO n K F W (blS S5 a.toNatClampNeg b.toNatClampNeg)) sn j.toNatClampNeg)) else 1000000001) else 1000000002
/-- the fewest coins, from c on -/
noncomputable def few (n sn : Nat) (K F W S5 : Nat → Nat) : Nat → Nat → Int32
  | _, 0 => -9
  | c, m + 1 => if zE (PO n K F W (coS S5 c)) sn = nI sn then nI c else few n sn K F W S5 (c + 1) m
noncomputable def rFew (n sn : Nat) (dn : Int32) (K F W S5 : Nat → Nat) : Int32 := if OVR n dn then -3 else few n sn K F W S5 0 100
theorem few_s {n sn c : Nat} {K F W S5 : Nat → Nat} (h : c < 100) : few n sn K F W S5 c (100 - c) = if zE (PO n K F W (coS S5 c)) sn = nI sn then nI c else few n sn K F W S5 (c + 1) (100 - (c + 1)) := by
  rw [show 100 - c = (100 - (c + 1)) + 1 by omega]
  rfl

set_option maxHeartbeats 1000000 in
set_option maxRecDepth 100000 in
/-- X11_byLaw -/
theorem c_X11_byLaw (l : Launch) (dC : Nat → ClassId) (dI : Nat → Nat → Nat) (aC : Nat → ClassId) (sz : Nat) (h0 : Nat) (xp : Nat) (xtp : Nat) (xn : Nat) (xt : Nat) (xk : Nat) (xl : Nat) (xc : Nat) (xo : Nat) (xto : Nat) (xr : Nat) (xch : Nat) (ts : Int32) (ik : Int32) (st : Int32) (ek : Nat) (ef : Nat) (ew : Nat) (ep : Nat) (es : Nat) (n : Nat) (sn : Nat) (dn : Int32) (kf : Nat → Int32) (ff : Nat → Int32) (wf : Nat → Int32) (pf : Nat → Int32) (stf : Nat → Int32) (tek : Nat) (tef : Nat) (tew : Nat) (tep : Nat) (tes : Nat) (tsz : Int32) (tsy : Int32) (tdn : Int32) (tkf : Nat → Int32) (tff : Nat → Int32) (twf : Nat → Int32) (tpf : Nat → Int32) (tsf : Nat → Int32) (K : Nat → Nat) (F : Nat → Nat) (W0 : Nat → Nat) (S5 : Nat → Nat) (pk : Nat) (fk : Nat → Option Nat) (k0 : Nat) (k1 : Nat) (k2 : Nat) (k3 : Nat) (k4 : Nat) (k5 : Nat) (k6 : Nat) (tpo : Nat) (tpp : Nat) (tps : Nat) (tpa : Nat) (tpe : Nat) (tpb : Nat) (tpu : Nat) (tpw : Nat) (tpq : Nat) (tpt : Nat) (tun : Int32) (tfw : Int32) (tfo : Nat → Option Nat) (tfp : Nat → Option Nat) (tfs : Nat → Option Nat) (tro : Nat → Nat) (trp : Nat → Nat) (trs : Nat → Nat) (tuf : Nat → Int32) (tvf : Nat → Int32) (tqf : Nat → Int32) (ttf : Nat → Int32) (tbf : Nat → Int32) (tyf : Nat → Int32) (teg0 : Nat → Int32) (L : List Nat) (g : Nat → Nat → Int32) (rf : Nat → Int32) (a1 : Int32) (a2 : Int32) (j : Int32) (tG : Nat) (hev : EVS n sn dn K F W0 S5 kf ff wf stf) (hkd : KDS fk k0 k1 k2 k3 k4 k5 k6) (htg : GRD L tfo tfp tfs tro trp trs) : Met l yX11_byLaw (wW yX11_byLaw cX11_byLaw 4 (some .int)) ({ frames := 6, cells := 0, slots := 0, locals := 131 } : Room) (va_Pc [Value.ref h0, Value.int a1, Value.int a2, Value.int j] (fun U => U.heap.size = sz ∧ va_P (dC, dI) classes (wp [oX11 h0 xp xtp xn xt xk xl xc xo xto xr xch ts ik st, oX4 xn ek ef ew ep es (nI n) (nI sn) dn, cI aC ek 8 kf, cI aC ef 8 ff, cI aC ew 8 wf, cI aC ep 8 pf, cI aC es 5 stf, oX4 xt tek tef tew tep tes tsz tsy tdn, cI aC tek 8 tkf, cI aC tef 8 tff, cI aC tew 8 twf, cI aC tep 8 tpf, cI aC tes 5 tsf, oX9 xtp tpo tpp tps tpa tpe tpb xt pk tpu tpw tpq tpt tun tfw, cA aC tpo 8 tfo, cA aC tpp 8 tfp, cA aC tps 8 tfs, cK aC pk 7 fk, cO k0 0 [], cO k1 1 [], cO k2 3 [], cO k3 5 [], cO k4 6 [], cO k5 10 [], cO k6 8 [], cI aC tpa 8 tyf, cI aC tpe 8 teg0, cI aC tpb 8 tbf, cI aC tpu 7 tuf, cI aC tpw 7 tvf, cI aC tpq 128 tqf, cI aC tpt 128 ttf, cI aC xr 7 rf] (va_pl L (plE aC g))) U.heap ∧ va_K (dC, dI) classes (TY aC) U ∧ va_D (fun _ => True) (wp [oX11 h0 xp xtp xn xt xk xl xc xo xto xr xch ts ik st, oX4 xn ek ef ew ep es (nI n) (nI sn) dn, cI aC ek 8 kf, cI aC ef 8 ff, cI aC ew 8 wf, cI aC ep 8 pf, cI aC es 5 stf, oX4 xt tek tef tew tep tes tsz tsy tdn, cI aC tek 8 tkf, cI aC tef 8 tff, cI aC tew 8 twf, cI aC tep 8 tpf, cI aC tes 5 tsf, oX9 xtp tpo tpp tps tpa tpe tpb xt pk tpu tpw tpq tpt tun tfw, cA aC tpo 8 tfo, cA aC tpp 8 tfp, cA aC tps 8 tfs, cK aC pk 7 fk, cO k0 0 [], cO k1 1 [], cO k2 3 [], cO k3 5 [], cO k4 6 [], cO k5 10 [], cO k6 8 [], cI aC tpa 8 tyf, cI aC tpe 8 teg0, cI aC tpb 8 tbf, cI aC tpu 7 tuf, cI aC tpw 7 tvf, cI aC tpq 128 tqf, cI aC tpt 128 ttf, cI aC xr 7 rf] (va_pl L (plE aC g))) ∧ NX U ∧ va_Z "EldestSays" "GREATEST" "[I" (.ref tG) (va_A (wp [oX11 h0 xp xtp xn xt xk xl xc xo xto xr xch ts ik st, oX4 xn ek ef ew ep es (nI n) (nI sn) dn, cI aC ek 8 kf, cI aC ef 8 ff, cI aC ew 8 wf, cI aC ep 8 pf, cI aC es 5 stf, oX4 xt tek tef tew tep tes tsz tsy tdn, cI aC tek 8 tkf, cI aC tef 8 tff, cI aC tew 8 twf, cI aC tep 8 tpf, cI aC tes 5 tsf, oX9 xtp tpo tpp tps tpa tpe tpb xt pk tpu tpw tpq tpt tun tfw, cA aC tpo 8 tfo, cA aC tpp 8 tfp, cA aC tps 8 tfs, cK aC pk 7 fk, cO k0 0 [], cO k1 1 [], cO k2 3 [], cO k3 5 [], cO k4 6 [], cO k5 10 [], cO k6 8 [], cI aC tpa 8 tyf, cI aC tpe 8 teg0, cI aC tpb 8 tbf, cI aC tpu 7 tuf, cI aC tpw 7 tvf, cI aC tpq 128 tqf, cI aC tpt 128 ttf, cI aC xr 7 rf] (va_pl L (plE aC g))) sz) U U.heap ∧ va_T .int tG 5 (fun j => .int (GV j)) (va_A (wp [oX11 h0 xp xtp xn xt xk xl xc xo xto xr xch ts ik st, oX4 xn ek ef ew ep es (nI n) (nI sn) dn, cI aC ek 8 kf, cI aC ef 8 ff, cI aC ew 8 wf, cI aC ep 8 pf, cI aC es 5 stf, oX4 xt tek tef tew tep tes tsz tsy tdn, cI aC tek 8 tkf, cI aC tef 8 tff, cI aC tew 8 twf, cI aC tep 8 tpf, cI aC tes 5 tsf, oX9 xtp tpo tpp tps tpa tpe tpb xt pk tpu tpw tpq tpt tun tfw, cA aC tpo 8 tfo, cA aC tpp 8 tfp, cA aC tps 8 tfs, cK aC pk 7 fk, cO k0 0 [], cO k1 1 [], cO k2 3 [], cO k3 5 [], cO k4 6 [], cO k5 10 [], cO k6 8 [], cI aC tpa 8 tyf, cI aC tpe 8 teg0, cI aC tpb 8 tbf, cI aC tpu 7 tuf, cI aC tpw 7 tvf, cI aC tpq 128 tqf, cI aC tpt 128 ttf, cI aC xr 7 rf] (va_pl L (plE aC g))) sz) U U.heap)) (va_Qi (fun (r : Int32) (u : Int32 × Int32 × Int32 × (Nat → Int32) × (Nat → Int32) × (Nat → Int32) × (Nat → Int32) × (Nat → Int32) × Int32 × Int32 × (Nat → Int32) × (Nat → Int32) × (Nat → Int32) × (Nat → Int32) × (Nat → Int32) × (Nat → Int32) × (Nat → Int32) × (Nat → Nat → Int32) × (Nat → Int32)) => match u with | (tsz2, tsy2, tdn2, tkf2, tff2, twf2, tpf2, tsf2, tun2, tfw2, tuf2, tvf2, tqf2, ttf2, tbf2, tyf2, teg02, g2, rf2) => (∀ a, OFF tro trp trs a → g2 a = g a) ∧ r = rByL n sn dn K F W0 S5 a1 a2 j) (fun (u : Int32 × Int32 × Int32 × (Nat → Int32) × (Nat → Int32) × (Nat → Int32) × (Nat → Int32) × (Nat → Int32) × Int32 × Int32 × (Nat → Int32) × (Nat → Int32) × (Nat → Int32) × (Nat → Int32) × (Nat → Int32) × (Nat → Int32) × (Nat → Int32) × (Nat → Nat → Int32) × (Nat → Int32)) (t : State) => match u with | (tsz2, tsy2, tdn2, tkf2, tff2, twf2, tpf2, tsf2, tun2, tfw2, tuf2, tvf2, tqf2, ttf2, tbf2, tyf2, teg02, g2, rf2) => va_P (dC, dI) classes (wp [oX11 h0 xp xtp xn xt xk xl xc xo xto xr xch ts ik st, oX4 xn ek ef ew ep es (nI n) (nI sn) dn, cI aC ek 8 kf, cI aC ef 8 ff, cI aC ew 8 wf, cI aC ep 8 pf, cI aC es 5 stf, oX4 xt tek tef tew tep tes tsz2 tsy2 tdn2, cI aC tek 8 tkf2, cI aC tef 8 tff2, cI aC tew 8 twf2, cI aC tep 8 tpf2, cI aC tes 5 tsf2, oX9 xtp tpo tpp tps tpa tpe tpb xt pk tpu tpw tpq tpt tun2 tfw2, cA aC tpo 8 tfo, cA aC tpp 8 tfp, cA aC tps 8 tfs, cK aC pk 7 fk, cO k0 0 [], cO k1 1 [], cO k2 3 [], cO k3 5 [], cO k4 6 [], cO k5 10 [], cO k6 8 [], cI aC tpa 8 tyf2, cI aC tpe 8 teg02, cI aC tpb 8 tbf2, cI aC tpu 7 tuf2, cI aC tpw 7 tvf2, cI aC tpq 128 tqf2, cI aC tpt 128 ttf2, cI aC xr 7 rf2] (va_pl L (plE aC g2))) t.heap ∧ va_K (dC, dI) classes (TY aC) t ∧ va_D (va_A (wp [oX11 h0 xp xtp xn xt xk xl xc xo xto xr xch ts ik st, oX4 xn ek ef ew ep es (nI n) (nI sn) dn, cI aC ek 8 kf, cI aC ef 8 ff, cI aC ew 8 wf, cI aC ep 8 pf, cI aC es 5 stf, oX4 xt tek tef tew tep tes tsz tsy tdn, cI aC tek 8 tkf, cI aC tef 8 tff, cI aC tew 8 twf, cI aC tep 8 tpf, cI aC tes 5 tsf, oX9 xtp tpo tpp tps tpa tpe tpb xt pk tpu tpw tpq tpt tun tfw, cA aC tpo 8 tfo, cA aC tpp 8 tfp, cA aC tps 8 tfs, cK aC pk 7 fk, cO k0 0 [], cO k1 1 [], cO k2 3 [], cO k3 5 [], cO k4 6 [], cO k5 10 [], cO k6 8 [], cI aC tpa 8 tyf, cI aC tpe 8 teg0, cI aC tpb 8 tbf, cI aC tpu 7 tuf, cI aC tpw 7 tvf, cI aC tpq 128 tqf, cI aC tpt 128 ttf, cI aC xr 7 rf] (va_pl L (plE aC g))) sz) (wp [oX11 h0 xp xtp xn xt xk xl xc xo xto xr xch ts ik st, oX4 xn ek ef ew ep es (nI n) (nI sn) dn, cI aC ek 8 kf, cI aC ef 8 ff, cI aC ew 8 wf, cI aC ep 8 pf, cI aC es 5 stf, oX4 xt tek tef tew tep tes tsz2 tsy2 tdn2, cI aC tek 8 tkf2, cI aC tef 8 tff2, cI aC tew 8 twf2, cI aC tep 8 tpf2, cI aC tes 5 tsf2, oX9 xtp tpo tpp tps tpa tpe tpb xt pk tpu tpw tpq tpt tun2 tfw2, cA aC tpo 8 tfo, cA aC tpp 8 tfp, cA aC tps 8 tfs, cK aC pk 7 fk, cO k0 0 [], cO k1 1 [], cO k2 3 [], cO k3 5 [], cO k4 6 [], cO k5 10 [], cO k6 8 [], cI aC tpa 8 tyf2, cI aC tpe 8 teg02, cI aC tpb 8 tbf2, cI aC tpu 7 tuf2, cI aC tpw 7 tvf2, cI aC tpq 128 tqf2, cI aC tpt 128 ttf2, cI aC xr 7 rf2] (va_pl L (plE aC g2)))) (va_A (wp [oX11 h0 xp xtp xn xt xk xl xc xo xto xr xch ts ik st, oX4 xn ek ef ew ep es (nI n) (nI sn) dn, cI aC ek 8 kf, cI aC ef 8 ff, cI aC ew 8 wf, cI aC ep 8 pf, cI aC es 5 stf, oX4 xt tek tef tew tep tes tsz tsy tdn, cI aC tek 8 tkf, cI aC tef 8 tff, cI aC tew 8 twf, cI aC tep 8 tpf, cI aC tes 5 tsf, oX9 xtp tpo tpp tps tpa tpe tpb xt pk tpu tpw tpq tpt tun tfw, cA aC tpo 8 tfo, cA aC tpp 8 tfp, cA aC tps 8 tfs, cK aC pk 7 fk, cO k0 0 [], cO k1 1 [], cO k2 3 [], cO k3 5 [], cO k4 6 [], cO k5 10 [], cO k6 8 [], cI aC tpa 8 tyf, cI aC tpe 8 teg0, cI aC tpb 8 tbf, cI aC tpu 7 tuf, cI aC tpw 7 tvf, cI aC tpq 128 tqf, cI aC tpt 128 ttf, cI aC xr 7 rf] (va_pl L (plE aC g))) sz)) 0 0 (va_A (wp [oX11 h0 xp xtp xn xt xk xl xc xo xto xr xch ts ik st, oX4 xn ek ef ew ep es (nI n) (nI sn) dn, cI aC ek 8 kf, cI aC ef 8 ff, cI aC ew 8 wf, cI aC ep 8 pf, cI aC es 5 stf, oX4 xt tek tef tew tep tes tsz tsy tdn, cI aC tek 8 tkf, cI aC tef 8 tff, cI aC tew 8 twf, cI aC tep 8 tpf, cI aC tes 5 tsf, oX9 xtp tpo tpp tps tpa tpe tpb xt pk tpu tpw tpq tpt tun tfw, cA aC tpo 8 tfo, cA aC tpp 8 tfp, cA aC tps 8 tfs, cK aC pk 7 fk, cO k0 0 [], cO k1 1 [], cO k2 3 [], cO k3 5 [], cO k4 6 [], cO k5 10 [], cO k6 8 [], cI aC tpa 8 tyf, cI aC tpe 8 teg0, cI aC tpb 8 tbf, cI aC tpu 7 tuf, cI aC tpw 7 tvf, cI aC tpq 128 tqf, cI aC tpt 128 ttf, cI aC xr 7 rf] (va_pl L (plE aC g))) sz) := by
  refine Met.ofW (cc := cX11_byLaw) (maxL := 4) (ret := (some .int)) (by decide) rfl ?_
  intro p e s m args below meth c s₁ B hml hv
  obtain ⟨rfl, hsz, hP, hK, hD0, hN, hZG, hTG⟩ := hv
  have hx := B.exec
  have hb := B.bytes
  have hr := B.returns
  have hts0 := atoms_spec (ws := (wW yX11_byLaw cX11_byLaw 4 (some .int))) B.pre
  have hts : ∀ w9 ∈ lw_G, w9.before ([Value.ref h0, Value.int a1, Value.int a2, Value.int j] : List Value).toArray s = true := fun w9 h9 => hts0 w9 (List.mem_cons_of_mem _ h9)
  have hown : s.vm.findClass RX11 = some m.cls := findClass_of_methodNamed (x := yX11_byLaw) B.named
  have hlocks := B.notSynchronized
  subst hsz
  have hD := hD0.self (sz := s.heap.size)
  generalize hAe : va_A (wp [oX11 h0 xp xtp xn xt xk xl xc xo xto xr xch ts ik st, oX4 xn ek ef ew ep es (nI n) (nI sn) dn, cI aC ek 8 kf, cI aC ef 8 ff, cI aC ew 8 wf, cI aC ep 8 pf, cI aC es 5 stf, oX4 xt tek tef tew tep tes tsz tsy tdn, cI aC tek 8 tkf, cI aC tef 8 tff, cI aC tew 8 twf, cI aC tep 8 tpf, cI aC tes 5 tsf, oX9 xtp tpo tpp tps tpa tpe tpb xt pk tpu tpw tpq tpt tun tfw, cA aC tpo 8 tfo, cA aC tpp 8 tfp, cA aC tps 8 tfs, cK aC pk 7 fk, cO k0 0 [], cO k1 1 [], cO k2 3 [], cO k3 5 [], cO k4 6 [], cO k5 10 [], cO k6 8 [], cI aC tpa 8 tyf, cI aC tpe 8 teg0, cI aC tpb 8 tbf, cI aC tpu 7 tuf, cI aC tpw 7 tvf, cI aC tpq 128 tqf, cI aC tpt 128 ttf, cI aC xr 7 rf] (va_pl L (plE aC g))) s.heap.size = A at hZG hTG hD ⊢
  have hA : ∀ q : Nat, s.heap.size ≤ q → A q := fun q h => by rw [← hAe]; exact Or.inr h
  obtain ⟨H, hHe⟩ : ∃ H : Heap, H = s.heap := ⟨_, rfl⟩
  have hS : va_S A s.heap H [] := by rw [hHe]; exact va_S.rf
  have hP : va_P (dC, dI) classes (wp [oX11 h0 xp xtp xn xt xk xl xc xo xto xr xch ts ik st, oX4 xn ek ef ew ep es (nI n) (nI sn) dn, cI aC ek 8 kf, cI aC ef 8 ff, cI aC ew 8 wf, cI aC ep 8 pf, cI aC es 5 stf, oX4 xt tek tef tew tep tes tsz tsy tdn, cI aC tek 8 tkf, cI aC tef 8 tff, cI aC tew 8 twf, cI aC tep 8 tpf, cI aC tes 5 tsf, oX9 xtp tpo tpp tps tpa tpe tpb xt pk tpu tpw tpq tpt tun tfw, cA aC tpo 8 tfo, cA aC tpp 8 tfp, cA aC tps 8 tfs, cK aC pk 7 fk, cO k0 0 [], cO k1 1 [], cO k2 3 [], cO k3 5 [], cO k4 6 [], cO k5 10 [], cO k6 8 [], cI aC tpa 8 tyf, cI aC tpe 8 teg0, cI aC tpb 8 tbf, cI aC tpu 7 tuf, cI aC tpw 7 tvf, cI aC tpq 128 tqf, cI aC tpt 128 ttf, cI aC xr 7 rf] (va_pl L (plE aC g))) H := by rw [hHe]; exact hP
  have hl := lv_entry ([Value.ref h0, Value.int a1, Value.int a2, Value.int j]) (n := 4) (Nat.le_of_ble_eq_true rfl)
  rw [lg_entry_eq]
  generalize (lg_sl ([Value.ref h0, Value.int a1, Value.int a2, Value.int j]) ++ List.replicate (4 - (lg_sl ([Value.ref h0, Value.int a1, Value.int a2, Value.int j])).length) Slot.unset).toArray = ls at hl ⊢
  have hl : lv_has ls 4 [(0, Value.ref h0), (1, Value.int a1), (2, Value.int a2), (3, Value.int j)] := hl
  rw [← hHe]
  have hn8 := EVS_n hev
  refine lv_iload_n hx hb dX11_byLaw_0 rfl (lv_at hl 1 rfl) ?_
  refine lv_if_lt (tgt := 26) hx hb dX11_byLaw_1 (by decide) (fun c_1 => ?_) (fun c_1 => ?_)
  · refine lv_ldc hx hb hown (hts _ (gw kw_507 rfl)) dX11_byLaw_26 ?_
    refine lv_aload_n hx hb dX11_byLaw_28 rfl (lv_at hl 0 rfl) ?_
    refine lv_bipush (v := -2) hx hb dX11_byLaw_29 (by decide) ?_
    have hpd9 := pdf_N (cx := [oX11 h0 xp xtp xn xt xk xl xc xo xto xr xch ts ik st, cI aC xr 7 rf]) hP hD hS hA [0, 32] (by decide) rfl
    have hPc := hpd9.1
    have hDc := hpd9.2.1
    have hFc := hpd9.2.2
    clear hpd9
    refine va_calli (va_runV (As := [Value.int (-2)]) (rest := [Value.int 1000000000]) ⟨hx, hb, hml, hown, hts⟩ (c_X11_refuse l dC dI aC H.size h0 xp xtp xn xt xk xl xc xo xto xr xch ts ik st (-2) 2 rf (by decide) (by decide) (by decide) (by unfold vp_in; decide)) ⟨(callB_of 1 hts (gG kw_276) rfl rfl rfl (hts _ (gw kw_1 rfl)) (hts _ (gw kw_273 rfl)) hd_X11_refuse ⟨Nat.le_of_ble_eq_true rfl, Nat.le_of_ble_eq_true rfl⟩), (hts _ (gw kw_275 rfl)), (hts _ (gw ks_0 rfl))⟩ ⟨fb_std, va_recv (q := (RX11, TX11, 14)) hK hPc (ci := 11) (q0 := 0) rfl rfl, pre_std hPc hK hDc hN⟩ rfl rfl hl.1 rfl (lv_room (Nat.le_of_ble_eq_true rfl)) dX11_byLaw_31 ⟨Nat.le_of_ble_eq_true rfl, Nat.le_of_ble_eq_true rfl⟩) hS (fun q _ h => hFc q h) hFc (fun x_2 u9 t9 H1 locs ht hvm hw_2 hB hz1 hk1 hS => ?_)
    obtain ⟨u_3, rfl⟩ : ∃ z, z = u9 := ⟨_, rfl⟩
    obtain ⟨hP1, hK1, hD1⟩ := hB
    rw [ht] at hP1
    clear hK1
    try dsimp only at hw_2
    have hpd9 : PDx (dC, dI) classes A H1 (wp [oX4 xn ek ef ew ep es (nI n) (nI sn) dn, cI aC ek 8 kf, cI aC ef 8 ff, cI aC ew 8 wf, cI aC ep 8 pf, cI aC es 5 stf, oX4 xt tek tef tew tep tes tsz tsy tdn, cI aC tek 8 tkf, cI aC tef 8 tff, cI aC tew 8 twf, cI aC tep 8 tpf, cI aC tes 5 tsf, oX9 xtp tpo tpp tps tpa tpe tpb xt pk tpu tpw tpq tpt tun tfw, cA aC tpo 8 tfo, cA aC tpp 8 tfp, cA aC tps 8 tfs, cK aC pk 7 fk, cO k0 0 [], cO k1 1 [], cO k2 3 [], cO k3 5 [], cO k4 6 [], cO k5 10 [], cO k6 8 [], cI aC tpa 8 tyf, cI aC tpe 8 teg0, cI aC tpb 8 tbf, cI aC tpu 7 tuf, cI aC tpw 7 tvf, cI aC tpq 128 tqf, cI aC tpt 128 ttf, oX11 h0 xp xtp xn xt xk xl xc xo xto xr xch ts ik st, cI aC xr 7 u_3] (va_pl L (plE aC g))) := jn_Q (wr := [oX4 xn ek ef ew ep es (nI n) (nI sn) dn, cI aC ek 8 kf, cI aC ef 8 ff, cI aC ew 8 wf, cI aC ep 8 pf, cI aC es 5 stf, oX4 xt tek tef tew tep tes tsz tsy tdn, cI aC tek 8 tkf, cI aC tef 8 tff, cI aC tew 8 twf, cI aC tep 8 tpf, cI aC tes 5 tsf, oX9 xtp tpo tpp tps tpa tpe tpb xt pk tpu tpw tpq tpt tun tfw, cA aC tpo 8 tfo, cA aC tpp 8 tfp, cA aC tps 8 tfs, cK aC pk 7 fk, cO k0 0 [], cO k1 1 [], cO k2 3 [], cO k3 5 [], cO k4 6 [], cO k5 10 [], cO k6 8 [], cI aC tpa 8 tyf, cI aC tpe 8 teg0, cI aC tpb 8 tbf, cI aC tpu 7 tuf, cI aC tpw 7 tvf, cI aC tpq 128 tqf, cI aC tpt 128 ttf]) hFc hk1 hP1 hD1 hP hD [0, 32] [1, 2, 3, 4, 5, 6, 7, 8, 9, 10, 11, 12, 13, 14, 15, 16, 17, 18, 19, 20, 21, 22, 23, 24, 25, 26, 27, 28, 29, 30, 31] rfl rfl (by decide) (by decide)
    have hP := hpd9.1
    have hD := hpd9.2
    clear hpd9
    generalize H1 = H at hP hS ⊢
    clear hPc hDc hFc hz1 hk1 hP1 hD1 ht hvm
    obtain ⟨hv9, -⟩ := hw_2
    refine lv_isub hx hb dX11_byLaw_34 ?_
    refine lv_topi (fun x_4 e_4 => ?_)
    have hpd9 := pd_P (cx := [oX11 h0 xp xtp xn xt xk xl xc xo xto xr xch ts ik st, oX4 xn ek ef ew ep es (nI n) (nI sn) dn, cI aC ek 8 kf, cI aC ef 8 ff, cI aC ew 8 wf, cI aC ep 8 pf, cI aC es 5 stf, oX4 xt tek tef tew tep tes tsz tsy tdn, cI aC tek 8 tkf, cI aC tef 8 tff, cI aC tew 8 twf, cI aC tep 8 tpf, cI aC tes 5 tsf, oX9 xtp tpo tpp tps tpa tpe tpb xt pk tpu tpw tpq tpt tun tfw, cA aC tpo 8 tfo, cA aC tpp 8 tfp, cA aC tps 8 tfs, cK aC pk 7 fk, cO k0 0 [], cO k1 1 [], cO k2 3 [], cO k3 5 [], cO k4 6 [], cO k5 10 [], cO k6 8 [], cI aC tpa 8 tyf, cI aC tpe 8 teg0, cI aC tpb 8 tbf, cI aC tpu 7 tuf, cI aC tpw 7 tvf, cI aC tpq 128 tqf, cI aC tpt 128 ttf, cI aC xr 7 u_3]) hP hD [31, 0, 1, 2, 3, 4, 5, 6, 7, 8, 9, 10, 11, 12, 13, 14, 15, 16, 17, 18, 19, 20, 21, 22, 23, 24, 25, 26, 27, 28, 29, 30, 32] (by decide) rfl
    have hP9 := hpd9.1
    have hD9 := hpd9.2
    refine W.widen (k := 0) (n := 0) (by omega) (by omega) ?_
    exact W.iret (v := x_4) hx hb hr (fun t ht hW => ⟨⟨x_4, (tsz, tsy, tdn, tkf, tff, twf, tpf, tsf, tun, tfw, tuf, tvf, tqf, ttf, tbf, tyf, teg0, g, u_3), rfl, ⟨fun a _ => rfl, by rw [e_4, hv9]; unfold rByL; rw [if_neg (fun q => q.1 c_1)]; rfl⟩, by rw [ht]; exact hP9, va_K.moved hW.alike hK, hD9⟩, hS.F ht⟩) hS.2.2 dX11_byLaw_35
  · refine lv_iload_n hx hb dX11_byLaw_4 rfl (lv_at hl 1 rfl) ?_
    refine va_gets (v := .ref tG) hx hb hZG hS hown (hts _ (gw kw_345 rfl)) (fun _ h9 => h9) dX11_byLaw_5 ?_
    refine lv_iconst (v := 1) hx hb dX11_byLaw_8 (by decide) ?_
    have h_5 : vp_in 1 5 := by unfold vp_in; decide
    refine va_ti hx hb hTG hS h_5 rfl dX11_byLaw_9 ?_
    refine lv_topi (fun x_6 e_6 => ?_)
    refine lv_icmp_gt (tgt := 26) hx hb dX11_byLaw_10 (by decide) (fun c_7 => ?_) (fun c_7 => ?_)
    · refine lv_ldc hx hb hown (hts _ (gw kw_507 rfl)) dX11_byLaw_26 ?_
      refine lv_aload_n hx hb dX11_byLaw_28 rfl (lv_at hl 0 rfl) ?_
      refine lv_bipush (v := -2) hx hb dX11_byLaw_29 (by decide) ?_
      have hpd9 := pdf_N (cx := [oX11 h0 xp xtp xn xt xk xl xc xo xto xr xch ts ik st, cI aC xr 7 rf]) hP hD hS hA [0, 32] (by decide) rfl
      have hPc := hpd9.1
      have hDc := hpd9.2.1
      have hFc := hpd9.2.2
      clear hpd9
      refine va_calli (va_runV (As := [Value.int (-2)]) (rest := [Value.int 1000000000]) ⟨hx, hb, hml, hown, hts⟩ (c_X11_refuse l dC dI aC H.size h0 xp xtp xn xt xk xl xc xo xto xr xch ts ik st (-2) 2 rf (by decide) (by decide) (by decide) (by unfold vp_in; decide)) ⟨(callB_of 1 hts (gG kw_276) rfl rfl rfl (hts _ (gw kw_1 rfl)) (hts _ (gw kw_273 rfl)) hd_X11_refuse ⟨Nat.le_of_ble_eq_true rfl, Nat.le_of_ble_eq_true rfl⟩), (hts _ (gw kw_275 rfl)), (hts _ (gw ks_0 rfl))⟩ ⟨fb_std, va_recv (q := (RX11, TX11, 14)) hK hPc (ci := 11) (q0 := 0) rfl rfl, pre_std hPc hK hDc hN⟩ rfl rfl hl.1 rfl (lv_room (Nat.le_of_ble_eq_true rfl)) dX11_byLaw_31 ⟨Nat.le_of_ble_eq_true rfl, Nat.le_of_ble_eq_true rfl⟩) hS (fun q _ h => hFc q h) hFc (fun x_8 u9 t9 H1 locs ht hvm hw_8 hB hz1 hk1 hS => ?_)
      obtain ⟨u_9, rfl⟩ : ∃ z, z = u9 := ⟨_, rfl⟩
      obtain ⟨hP1, hK1, hD1⟩ := hB
      rw [ht] at hP1
      clear hK1
      try dsimp only at hw_8
      have hpd9 : PDx (dC, dI) classes A H1 (wp [oX4 xn ek ef ew ep es (nI n) (nI sn) dn, cI aC ek 8 kf, cI aC ef 8 ff, cI aC ew 8 wf, cI aC ep 8 pf, cI aC es 5 stf, oX4 xt tek tef tew tep tes tsz tsy tdn, cI aC tek 8 tkf, cI aC tef 8 tff, cI aC tew 8 twf, cI aC tep 8 tpf, cI aC tes 5 tsf, oX9 xtp tpo tpp tps tpa tpe tpb xt pk tpu tpw tpq tpt tun tfw, cA aC tpo 8 tfo, cA aC tpp 8 tfp, cA aC tps 8 tfs, cK aC pk 7 fk, cO k0 0 [], cO k1 1 [], cO k2 3 [], cO k3 5 [], cO k4 6 [], cO k5 10 [], cO k6 8 [], cI aC tpa 8 tyf, cI aC tpe 8 teg0, cI aC tpb 8 tbf, cI aC tpu 7 tuf, cI aC tpw 7 tvf, cI aC tpq 128 tqf, cI aC tpt 128 ttf, oX11 h0 xp xtp xn xt xk xl xc xo xto xr xch ts ik st, cI aC xr 7 u_9] (va_pl L (plE aC g))) := jn_Q (wr := [oX4 xn ek ef ew ep es (nI n) (nI sn) dn, cI aC ek 8 kf, cI aC ef 8 ff, cI aC ew 8 wf, cI aC ep 8 pf, cI aC es 5 stf, oX4 xt tek tef tew tep tes tsz tsy tdn, cI aC tek 8 tkf, cI aC tef 8 tff, cI aC tew 8 twf, cI aC tep 8 tpf, cI aC tes 5 tsf, oX9 xtp tpo tpp tps tpa tpe tpb xt pk tpu tpw tpq tpt tun tfw, cA aC tpo 8 tfo, cA aC tpp 8 tfp, cA aC tps 8 tfs, cK aC pk 7 fk, cO k0 0 [], cO k1 1 [], cO k2 3 [], cO k3 5 [], cO k4 6 [], cO k5 10 [], cO k6 8 [], cI aC tpa 8 tyf, cI aC tpe 8 teg0, cI aC tpb 8 tbf, cI aC tpu 7 tuf, cI aC tpw 7 tvf, cI aC tpq 128 tqf, cI aC tpt 128 ttf]) hFc hk1 hP1 hD1 hP hD [0, 32] [1, 2, 3, 4, 5, 6, 7, 8, 9, 10, 11, 12, 13, 14, 15, 16, 17, 18, 19, 20, 21, 22, 23, 24, 25, 26, 27, 28, 29, 30, 31] rfl rfl (by decide) (by decide)
      have hP := hpd9.1
      have hD := hpd9.2
      clear hpd9
      generalize H1 = H at hP hS ⊢
      clear hPc hDc hFc hz1 hk1 hP1 hD1 ht hvm
      obtain ⟨hv9, -⟩ := hw_8
      refine lv_isub hx hb dX11_byLaw_34 ?_
      refine lv_topi (fun x_10 e_10 => ?_)
      have hpd9 := pd_P (cx := [oX11 h0 xp xtp xn xt xk xl xc xo xto xr xch ts ik st, oX4 xn ek ef ew ep es (nI n) (nI sn) dn, cI aC ek 8 kf, cI aC ef 8 ff, cI aC ew 8 wf, cI aC ep 8 pf, cI aC es 5 stf, oX4 xt tek tef tew tep tes tsz tsy tdn, cI aC tek 8 tkf, cI aC tef 8 tff, cI aC tew 8 twf, cI aC tep 8 tpf, cI aC tes 5 tsf, oX9 xtp tpo tpp tps tpa tpe tpb xt pk tpu tpw tpq tpt tun tfw, cA aC tpo 8 tfo, cA aC tpp 8 tfp, cA aC tps 8 tfs, cK aC pk 7 fk, cO k0 0 [], cO k1 1 [], cO k2 3 [], cO k3 5 [], cO k4 6 [], cO k5 10 [], cO k6 8 [], cI aC tpa 8 tyf, cI aC tpe 8 teg0, cI aC tpb 8 tbf, cI aC tpu 7 tuf, cI aC tpw 7 tvf, cI aC tpq 128 tqf, cI aC tpt 128 ttf, cI aC xr 7 u_9]) hP hD [31, 0, 1, 2, 3, 4, 5, 6, 7, 8, 9, 10, 11, 12, 13, 14, 15, 16, 17, 18, 19, 20, 21, 22, 23, 24, 25, 26, 27, 28, 29, 30, 32] (by decide) rfl
      have hP9 := hpd9.1
      have hD9 := hpd9.2
      refine W.widen (k := 0) (n := 0) (by omega) (by omega) ?_
      exact W.iret (v := x_10) hx hb hr (fun t ht hW => ⟨⟨x_10, (tsz, tsy, tdn, tkf, tff, twf, tpf, tsf, tun, tfw, tuf, tvf, tqf, ttf, tbf, tyf, teg0, g, u_9), rfl, ⟨fun a _ => rfl, by rw [e_10, hv9]; unfold rByL; rw [if_neg (fun q => q.2.1 (by have h7 := c_7; rw [e_6] at h7; exact h7))]; rfl⟩, by rw [ht]; exact hP9, va_K.moved hW.alike hK, hD9⟩, hS.F ht⟩) hS.2.2 dX11_byLaw_35
    · refine lv_iload_n hx hb dX11_byLaw_13 rfl (lv_at hl 2 rfl) ?_
      refine lv_if_lt (tgt := 26) hx hb dX11_byLaw_14 (by decide) (fun c_11 => ?_) (fun c_11 => ?_)
      · refine lv_ldc hx hb hown (hts _ (gw kw_507 rfl)) dX11_byLaw_26 ?_
        refine lv_aload_n hx hb dX11_byLaw_28 rfl (lv_at hl 0 rfl) ?_
        refine lv_bipush (v := -2) hx hb dX11_byLaw_29 (by decide) ?_
        have hpd9 := pdf_N (cx := [oX11 h0 xp xtp xn xt xk xl xc xo xto xr xch ts ik st, cI aC xr 7 rf]) hP hD hS hA [0, 32] (by decide) rfl
        have hPc := hpd9.1
        have hDc := hpd9.2.1
        have hFc := hpd9.2.2
        clear hpd9
        refine va_calli (va_runV (As := [Value.int (-2)]) (rest := [Value.int 1000000000]) ⟨hx, hb, hml, hown, hts⟩ (c_X11_refuse l dC dI aC H.size h0 xp xtp xn xt xk xl xc xo xto xr xch ts ik st (-2) 2 rf (by decide) (by decide) (by decide) (by unfold vp_in; decide)) ⟨(callB_of 1 hts (gG kw_276) rfl rfl rfl (hts _ (gw kw_1 rfl)) (hts _ (gw kw_273 rfl)) hd_X11_refuse ⟨Nat.le_of_ble_eq_true rfl, Nat.le_of_ble_eq_true rfl⟩), (hts _ (gw kw_275 rfl)), (hts _ (gw ks_0 rfl))⟩ ⟨fb_std, va_recv (q := (RX11, TX11, 14)) hK hPc (ci := 11) (q0 := 0) rfl rfl, pre_std hPc hK hDc hN⟩ rfl rfl hl.1 rfl (lv_room (Nat.le_of_ble_eq_true rfl)) dX11_byLaw_31 ⟨Nat.le_of_ble_eq_true rfl, Nat.le_of_ble_eq_true rfl⟩) hS (fun q _ h => hFc q h) hFc (fun x_12 u9 t9 H1 locs ht hvm hw_12 hB hz1 hk1 hS => ?_)
        obtain ⟨u_13, rfl⟩ : ∃ z, z = u9 := ⟨_, rfl⟩
        obtain ⟨hP1, hK1, hD1⟩ := hB
        rw [ht] at hP1
        clear hK1
        try dsimp only at hw_12
        have hpd9 : PDx (dC, dI) classes A H1 (wp [oX4 xn ek ef ew ep es (nI n) (nI sn) dn, cI aC ek 8 kf, cI aC ef 8 ff, cI aC ew 8 wf, cI aC ep 8 pf, cI aC es 5 stf, oX4 xt tek tef tew tep tes tsz tsy tdn, cI aC tek 8 tkf, cI aC tef 8 tff, cI aC tew 8 twf, cI aC tep 8 tpf, cI aC tes 5 tsf, oX9 xtp tpo tpp tps tpa tpe tpb xt pk tpu tpw tpq tpt tun tfw, cA aC tpo 8 tfo, cA aC tpp 8 tfp, cA aC tps 8 tfs, cK aC pk 7 fk, cO k0 0 [], cO k1 1 [], cO k2 3 [], cO k3 5 [], cO k4 6 [], cO k5 10 [], cO k6 8 [], cI aC tpa 8 tyf, cI aC tpe 8 teg0, cI aC tpb 8 tbf, cI aC tpu 7 tuf, cI aC tpw 7 tvf, cI aC tpq 128 tqf, cI aC tpt 128 ttf, oX11 h0 xp xtp xn xt xk xl xc xo xto xr xch ts ik st, cI aC xr 7 u_13] (va_pl L (plE aC g))) := jn_Q (wr := [oX4 xn ek ef ew ep es (nI n) (nI sn) dn, cI aC ek 8 kf, cI aC ef 8 ff, cI aC ew 8 wf, cI aC ep 8 pf, cI aC es 5 stf, oX4 xt tek tef tew tep tes tsz tsy tdn, cI aC tek 8 tkf, cI aC tef 8 tff, cI aC tew 8 twf, cI aC tep 8 tpf, cI aC tes 5 tsf, oX9 xtp tpo tpp tps tpa tpe tpb xt pk tpu tpw tpq tpt tun tfw, cA aC tpo 8 tfo, cA aC tpp 8 tfp, cA aC tps 8 tfs, cK aC pk 7 fk, cO k0 0 [], cO k1 1 [], cO k2 3 [], cO k3 5 [], cO k4 6 [], cO k5 10 [], cO k6 8 [], cI aC tpa 8 tyf, cI aC tpe 8 teg0, cI aC tpb 8 tbf, cI aC tpu 7 tuf, cI aC tpw 7 tvf, cI aC tpq 128 tqf, cI aC tpt 128 ttf]) hFc hk1 hP1 hD1 hP hD [0, 32] [1, 2, 3, 4, 5, 6, 7, 8, 9, 10, 11, 12, 13, 14, 15, 16, 17, 18, 19, 20, 21, 22, 23, 24, 25, 26, 27, 28, 29, 30, 31] rfl rfl (by decide) (by decide)
        have hP := hpd9.1
        have hD := hpd9.2
        clear hpd9
        generalize H1 = H at hP hS ⊢
        clear hPc hDc hFc hz1 hk1 hP1 hD1 ht hvm
        obtain ⟨hv9, -⟩ := hw_12
        refine lv_isub hx hb dX11_byLaw_34 ?_
        refine lv_topi (fun x_14 e_14 => ?_)
        have hpd9 := pd_P (cx := [oX11 h0 xp xtp xn xt xk xl xc xo xto xr xch ts ik st, oX4 xn ek ef ew ep es (nI n) (nI sn) dn, cI aC ek 8 kf, cI aC ef 8 ff, cI aC ew 8 wf, cI aC ep 8 pf, cI aC es 5 stf, oX4 xt tek tef tew tep tes tsz tsy tdn, cI aC tek 8 tkf, cI aC tef 8 tff, cI aC tew 8 twf, cI aC tep 8 tpf, cI aC tes 5 tsf, oX9 xtp tpo tpp tps tpa tpe tpb xt pk tpu tpw tpq tpt tun tfw, cA aC tpo 8 tfo, cA aC tpp 8 tfp, cA aC tps 8 tfs, cK aC pk 7 fk, cO k0 0 [], cO k1 1 [], cO k2 3 [], cO k3 5 [], cO k4 6 [], cO k5 10 [], cO k6 8 [], cI aC tpa 8 tyf, cI aC tpe 8 teg0, cI aC tpb 8 tbf, cI aC tpu 7 tuf, cI aC tpw 7 tvf, cI aC tpq 128 tqf, cI aC tpt 128 ttf, cI aC xr 7 u_13]) hP hD [31, 0, 1, 2, 3, 4, 5, 6, 7, 8, 9, 10, 11, 12, 13, 14, 15, 16, 17, 18, 19, 20, 21, 22, 23, 24, 25, 26, 27, 28, 29, 30, 32] (by decide) rfl
        have hP9 := hpd9.1
        have hD9 := hpd9.2
        refine W.widen (k := 0) (n := 0) (by omega) (by omega) ?_
        exact W.iret (v := x_14) hx hb hr (fun t ht hW => ⟨⟨x_14, (tsz, tsy, tdn, tkf, tff, twf, tpf, tsf, tun, tfw, tuf, tvf, tqf, ttf, tbf, tyf, teg0, g, u_13), rfl, ⟨fun a _ => rfl, by rw [e_14, hv9]; unfold rByL; rw [if_neg (fun q => q.2.2.1 c_11)]; rfl⟩, by rw [ht]; exact hP9, va_K.moved hW.alike hK, hD9⟩, hS.F ht⟩) hS.2.2 dX11_byLaw_35
      · refine lv_iload_n hx hb dX11_byLaw_17 rfl (lv_at hl 2 rfl) ?_
        refine va_gets (v := .ref tG) hx hb hZG hS hown (hts _ (gw kw_345 rfl)) (fun _ h9 => h9) dX11_byLaw_18 ?_
        refine lv_iconst (v := 2) hx hb dX11_byLaw_21 (by decide) ?_
        have h_15 : vp_in 2 5 := by unfold vp_in; decide
        refine va_ti hx hb hTG hS h_15 rfl dX11_byLaw_22 ?_
        refine lv_topi (fun x_16 e_16 => ?_)
        refine lv_icmp_le (tgt := 36) hx hb dX11_byLaw_23 (by decide) (fun c_17 => ?_) (fun c_17 => ?_)
        · have hbk : BLK a1 a2 := ⟨c_1, by have h7 := c_7; rw [e_6] at h7; exact h7, c_11, Int32.not_lt.mpr (by have h7 := c_17; rw [e_16] at h7; exact h7)⟩
          obtain ⟨xx, yy, hx2, hy1, hxe, hye⟩ := BLK_ix hbk
          have h9 : a1 = nI xx := hxe
          subst h9
          have h9 : a2 = nI yy := hye
          subst h9
          refine lv_aload_n hx hb dX11_byLaw_36 rfl (lv_at hl 0 rfl) ?_
          refine va_get (D := (dC, dI)) (ci := 11) (v := Value.ref xn) (C := RX11) (T := TX11) (N := 14) hx hb hts inX11 hown hK hP 0 rfl rfl 2 (by decide) (hts _ (gw kw_228 rfl)) (fun _ h9 => h9) rfl dX11_byLaw_37 ?_
          refine lv_iload_n hx hb dX11_byLaw_40 rfl (lv_at hl 3 rfl) ?_
          have hpd9 := pdf_N (cx := [oX4 xn ek ef ew ep es (nI n) (nI sn) dn]) hP hD hS hA [1] (by decide) rfl
          have hPc := hpd9.1
          have hDc := hpd9.2.1
          have hFc := hpd9.2.2
          clear hpd9
          refine va_calli (va_runV (As := [Value.int j]) (rest := []) ⟨hx, hb, hml, hown, hts⟩ (c_X4_has l dC dI aC H.size xn ek ef ew ep es (nI n) (nI sn) dn j ) ⟨(callB_of 1 hts (gG kw_340) rfl rfl rfl (hts _ (gw kw_2 rfl)) (hts _ (gw kw_337 rfl)) hd_X4_has ⟨Nat.le_of_ble_eq_true rfl, Nat.le_of_ble_eq_true rfl⟩), (hts _ (gw kw_338 rfl)), (hts _ (gw kw_339 rfl))⟩ ⟨fb_std, va_recv (q := (RX4, TX4, 8)) hK hPc (ci := 4) (q0 := 0) rfl rfl, pre_std hPc hK hDc hN⟩ rfl rfl hl.1 rfl (lv_room (Nat.le_of_ble_eq_true rfl)) dX11_byLaw_41 ⟨Nat.le_of_ble_eq_true rfl, Nat.le_of_ble_eq_true rfl⟩) hS (fun q _ h => hFc q h) hFc (fun x_18 u9 t9 H1 locs ht hvm hw_18 hB hz1 hk1 hS => ?_)
          obtain ⟨hP1, hK1, hD1⟩ := hB
          rw [ht] at hP1
          clear hK1
          try dsimp only at hw_18
          have hpd9 : PDx (dC, dI) classes A H1 (wp [oX11 h0 xp xtp xn xt xk xl xc xo xto xr xch ts ik st, cI aC ek 8 kf, cI aC ef 8 ff, cI aC ew 8 wf, cI aC ep 8 pf, cI aC es 5 stf, oX4 xt tek tef tew tep tes tsz tsy tdn, cI aC tek 8 tkf, cI aC tef 8 tff, cI aC tew 8 twf, cI aC tep 8 tpf, cI aC tes 5 tsf, oX9 xtp tpo tpp tps tpa tpe tpb xt pk tpu tpw tpq tpt tun tfw, cA aC tpo 8 tfo, cA aC tpp 8 tfp, cA aC tps 8 tfs, cK aC pk 7 fk, cO k0 0 [], cO k1 1 [], cO k2 3 [], cO k3 5 [], cO k4 6 [], cO k5 10 [], cO k6 8 [], cI aC tpa 8 tyf, cI aC tpe 8 teg0, cI aC tpb 8 tbf, cI aC tpu 7 tuf, cI aC tpw 7 tvf, cI aC tpq 128 tqf, cI aC tpt 128 ttf, cI aC xr 7 rf, oX4 xn ek ef ew ep es (nI n) (nI sn) dn] (va_pl L (plE aC g))) := jn_Q (wr := [oX11 h0 xp xtp xn xt xk xl xc xo xto xr xch ts ik st, cI aC ek 8 kf, cI aC ef 8 ff, cI aC ew 8 wf, cI aC ep 8 pf, cI aC es 5 stf, oX4 xt tek tef tew tep tes tsz tsy tdn, cI aC tek 8 tkf, cI aC tef 8 tff, cI aC tew 8 twf, cI aC tep 8 tpf, cI aC tes 5 tsf, oX9 xtp tpo tpp tps tpa tpe tpb xt pk tpu tpw tpq tpt tun tfw, cA aC tpo 8 tfo, cA aC tpp 8 tfp, cA aC tps 8 tfs, cK aC pk 7 fk, cO k0 0 [], cO k1 1 [], cO k2 3 [], cO k3 5 [], cO k4 6 [], cO k5 10 [], cO k6 8 [], cI aC tpa 8 tyf, cI aC tpe 8 teg0, cI aC tpb 8 tbf, cI aC tpu 7 tuf, cI aC tpw 7 tvf, cI aC tpq 128 tqf, cI aC tpt 128 ttf, cI aC xr 7 rf]) hFc hk1 hP1 hD1 hP hD [1] [0, 2, 3, 4, 5, 6, 7, 8, 9, 10, 11, 12, 13, 14, 15, 16, 17, 18, 19, 20, 21, 22, 23, 24, 25, 26, 27, 28, 29, 30, 31, 32] rfl rfl (by decide) (by decide)
          have hP := hpd9.1
          have hD := hpd9.2
          clear hpd9
          generalize H1 = H at hP hS ⊢
          clear hPc hDc hFc hz1 hk1 hP1 hD1 ht hvm
          have hz_41 := hw_18
          refine lv_if_eq (tgt := 58) hx hb dX11_byLaw_44 (by decide) (fun c_19 => ?_) (fun c_19 => ?_)
          · refine lv_ldc hx hb hown (hts _ (gw kw_507 rfl)) dX11_byLaw_58 ?_
            refine lv_aload_n hx hb dX11_byLaw_60 rfl (lv_at hl 0 rfl) ?_
            refine lv_iconst (v := -1) hx hb dX11_byLaw_61 (by decide) ?_
            have hpd9 := pdf_N (cx := [oX11 h0 xp xtp xn xt xk xl xc xo xto xr xch ts ik st, cI aC xr 7 rf]) hP hD hS hA [0, 31] (by decide) rfl
            have hPc := hpd9.1
            have hDc := hpd9.2.1
            have hFc := hpd9.2.2
            clear hpd9
            refine va_calli (va_runV (As := [Value.int (-1)]) (rest := [Value.int 1000000000]) ⟨hx, hb, hml, hown, hts⟩ (c_X11_refuse l dC dI aC H.size h0 xp xtp xn xt xk xl xc xo xto xr xch ts ik st (-1) 1 rf (by decide) (by decide) (by decide) (by unfold vp_in; decide)) ⟨(callB_of 1 hts (gG kw_276) rfl rfl rfl (hts _ (gw kw_1 rfl)) (hts _ (gw kw_273 rfl)) hd_X11_refuse ⟨Nat.le_of_ble_eq_true rfl, Nat.le_of_ble_eq_true rfl⟩), (hts _ (gw kw_275 rfl)), (hts _ (gw ks_0 rfl))⟩ ⟨fb_std, va_recv (q := (RX11, TX11, 14)) hK hPc (ci := 11) (q0 := 0) rfl rfl, pre_std hPc hK hDc hN⟩ rfl rfl hl.1 rfl (lv_room (Nat.le_of_ble_eq_true rfl)) dX11_byLaw_62 ⟨Nat.le_of_ble_eq_true rfl, Nat.le_of_ble_eq_true rfl⟩) hS (fun q _ h => hFc q h) hFc (fun x_20 u9 t9 H1 locs ht hvm hw_20 hB hz1 hk1 hS => ?_)
            obtain ⟨u_21, rfl⟩ : ∃ z, z = u9 := ⟨_, rfl⟩
            obtain ⟨hP1, hK1, hD1⟩ := hB
            rw [ht] at hP1
            clear hK1
            try dsimp only at hw_20
            have hpd9 : PDx (dC, dI) classes A H1 (wp [cI aC ek 8 kf, cI aC ef 8 ff, cI aC ew 8 wf, cI aC ep 8 pf, cI aC es 5 stf, oX4 xt tek tef tew tep tes tsz tsy tdn, cI aC tek 8 tkf, cI aC tef 8 tff, cI aC tew 8 twf, cI aC tep 8 tpf, cI aC tes 5 tsf, oX9 xtp tpo tpp tps tpa tpe tpb xt pk tpu tpw tpq tpt tun tfw, cA aC tpo 8 tfo, cA aC tpp 8 tfp, cA aC tps 8 tfs, cK aC pk 7 fk, cO k0 0 [], cO k1 1 [], cO k2 3 [], cO k3 5 [], cO k4 6 [], cO k5 10 [], cO k6 8 [], cI aC tpa 8 tyf, cI aC tpe 8 teg0, cI aC tpb 8 tbf, cI aC tpu 7 tuf, cI aC tpw 7 tvf, cI aC tpq 128 tqf, cI aC tpt 128 ttf, oX4 xn ek ef ew ep es (nI n) (nI sn) dn, oX11 h0 xp xtp xn xt xk xl xc xo xto xr xch ts ik st, cI aC xr 7 u_21] (va_pl L (plE aC g))) := jn_Q (wr := [cI aC ek 8 kf, cI aC ef 8 ff, cI aC ew 8 wf, cI aC ep 8 pf, cI aC es 5 stf, oX4 xt tek tef tew tep tes tsz tsy tdn, cI aC tek 8 tkf, cI aC tef 8 tff, cI aC tew 8 twf, cI aC tep 8 tpf, cI aC tes 5 tsf, oX9 xtp tpo tpp tps tpa tpe tpb xt pk tpu tpw tpq tpt tun tfw, cA aC tpo 8 tfo, cA aC tpp 8 tfp, cA aC tps 8 tfs, cK aC pk 7 fk, cO k0 0 [], cO k1 1 [], cO k2 3 [], cO k3 5 [], cO k4 6 [], cO k5 10 [], cO k6 8 [], cI aC tpa 8 tyf, cI aC tpe 8 teg0, cI aC tpb 8 tbf, cI aC tpu 7 tuf, cI aC tpw 7 tvf, cI aC tpq 128 tqf, cI aC tpt 128 ttf, oX4 xn ek ef ew ep es (nI n) (nI sn) dn]) hFc hk1 hP1 hD1 hP hD [0, 31] [1, 2, 3, 4, 5, 6, 7, 8, 9, 10, 11, 12, 13, 14, 15, 16, 17, 18, 19, 20, 21, 22, 23, 24, 25, 26, 27, 28, 29, 30, 32] rfl rfl (by decide) (by decide)
            have hP := hpd9.1
            have hD := hpd9.2
            clear hpd9
            generalize H1 = H at hP hS ⊢
            clear hPc hDc hFc hz1 hk1 hP1 hD1 ht hvm
            obtain ⟨hv9, -⟩ := hw_20
            refine lv_isub hx hb dX11_byLaw_65 ?_
            refine lv_topi (fun x_22 e_22 => ?_)
            have hpd9 := pd_P (cx := [oX11 h0 xp xtp xn xt xk xl xc xo xto xr xch ts ik st, oX4 xn ek ef ew ep es (nI n) (nI sn) dn, cI aC ek 8 kf, cI aC ef 8 ff, cI aC ew 8 wf, cI aC ep 8 pf, cI aC es 5 stf, oX4 xt tek tef tew tep tes tsz tsy tdn, cI aC tek 8 tkf, cI aC tef 8 tff, cI aC tew 8 twf, cI aC tep 8 tpf, cI aC tes 5 tsf, oX9 xtp tpo tpp tps tpa tpe tpb xt pk tpu tpw tpq tpt tun tfw, cA aC tpo 8 tfo, cA aC tpp 8 tfp, cA aC tps 8 tfs, cK aC pk 7 fk, cO k0 0 [], cO k1 1 [], cO k2 3 [], cO k3 5 [], cO k4 6 [], cO k5 10 [], cO k6 8 [], cI aC tpa 8 tyf, cI aC tpe 8 teg0, cI aC tpb 8 tbf, cI aC tpu 7 tuf, cI aC tpw 7 tvf, cI aC tpq 128 tqf, cI aC tpt 128 ttf, cI aC xr 7 u_21]) hP hD [31, 30, 0, 1, 2, 3, 4, 5, 6, 7, 8, 9, 10, 11, 12, 13, 14, 15, 16, 17, 18, 19, 20, 21, 22, 23, 24, 25, 26, 27, 28, 29, 32] (by decide) rfl
            have hP9 := hpd9.1
            have hD9 := hpd9.2
            refine W.widen (k := 0) (n := 0) (by omega) (by omega) ?_
            exact W.iret (v := x_22) hx hb hr (fun t ht hW => ⟨⟨x_22, (tsz, tsy, tdn, tkf, tff, twf, tpf, tsf, tun, tfw, tuf, tvf, tqf, ttf, tbf, tyf, teg0, g, u_21), rfl, ⟨fun a _ => rfl, by rw [e_22, hv9]; unfold rByL; rw [if_pos hbk, if_neg (fun q => (has_n hz_41 c_19) q.1)]; rfl⟩, by rw [ht]; exact hP9, va_K.moved hW.alike hK, hD9⟩, hS.F ht⟩) hS.2.2 dX11_byLaw_66
          · obtain ⟨a, ha8, ha9⟩ := OKI_ix hn8 (has_y hz_41 c_19)
            have h9 : j = nI a := ha9
            subst h9
            refine lv_iload_n hx hb dX11_byLaw_47 rfl (lv_at hl 3 rfl) ?_
            refine lv_aload_n hx hb dX11_byLaw_48 rfl (lv_at hl 0 rfl) ?_
            refine va_get (D := (dC, dI)) (ci := 11) (v := Value.ref xn) (C := RX11) (T := TX11) (N := 14) hx hb hts inX11 hown hK hP 0 rfl rfl 2 (by decide) (hts _ (gw kw_228 rfl)) (fun _ h9 => h9) rfl dX11_byLaw_49 ?_
            refine va_get (D := (dC, dI)) (ci := 4) (v := Value.int (nI sn)) (C := RX4) (T := TX4) (N := 8) hx hb hts inX4 hown hK hP 32 rfl rfl 6 (by decide) (hts _ (gw kw_52 rfl)) (fun _ h9 => h9) rfl dX11_byLaw_52 ?_
            refine lv_icmp_ge (tgt := 67) hx hb dX11_byLaw_55 (by decide) (fun c_23 => ?_) (fun c_23 => ?_)
            · refine lv_aload_n hx hb dX11_byLaw_67 rfl (lv_at hl 0 rfl) ?_
              refine va_get (D := (dC, dI)) (ci := 11) (v := Value.ref xn) (C := RX11) (T := TX11) (N := 14) hx hb hts inX11 hown hK hP 0 rfl rfl 2 (by decide) (hts _ (gw kw_228 rfl)) (fun _ h9 => h9) rfl dX11_byLaw_68 ?_
              have hpd9 := pdf_N (cx := [oX4 xn ek ef ew ep es (nI n) (nI sn) dn]) hP hD hS hA [32] (by decide) rfl
              have hPc := hpd9.1
              have hDc := hpd9.2.1
              have hFc := hpd9.2.2
              clear hpd9
              refine va_calli (va_runV (As := []) (rest := []) ⟨hx, hb, hml, hown, hts⟩ (c_X4_isOver l dC dI aC H.size xn ek ef ew ep es (nI n) (nI sn) dn ) ⟨(callB_of 0 hts (gG kw_523) rfl rfl rfl (hts _ (gw kw_2 rfl)) (hts _ (gw kw_520 rfl)) hd_X4_isOver ⟨Nat.le_of_ble_eq_true rfl, Nat.le_of_ble_eq_true rfl⟩), (hts _ (gw kw_521 rfl)), (hts _ (gw kw_522 rfl))⟩ ⟨fb_std, va_recv (q := (RX4, TX4, 8)) hK hPc (ci := 4) (q0 := 0) rfl rfl, pre_std hPc hK hDc hN⟩ rfl rfl hl.1 rfl (lv_room (Nat.le_of_ble_eq_true rfl)) dX11_byLaw_71 ⟨Nat.le_of_ble_eq_true rfl, Nat.le_of_ble_eq_true rfl⟩) hS (fun q _ h => hFc q h) hFc (fun x_24 u9 t9 H1 locs ht hvm hw_24 hB hz1 hk1 hS => ?_)
              obtain ⟨hP1, hK1, hD1⟩ := hB
              rw [ht] at hP1
              clear hK1
              try dsimp only at hw_24
              have hpd9 : PDx (dC, dI) classes A H1 (wp [oX11 h0 xp xtp xn xt xk xl xc xo xto xr xch ts ik st, cI aC ek 8 kf, cI aC ef 8 ff, cI aC ew 8 wf, cI aC ep 8 pf, cI aC es 5 stf, oX4 xt tek tef tew tep tes tsz tsy tdn, cI aC tek 8 tkf, cI aC tef 8 tff, cI aC tew 8 twf, cI aC tep 8 tpf, cI aC tes 5 tsf, oX9 xtp tpo tpp tps tpa tpe tpb xt pk tpu tpw tpq tpt tun tfw, cA aC tpo 8 tfo, cA aC tpp 8 tfp, cA aC tps 8 tfs, cK aC pk 7 fk, cO k0 0 [], cO k1 1 [], cO k2 3 [], cO k3 5 [], cO k4 6 [], cO k5 10 [], cO k6 8 [], cI aC tpa 8 tyf, cI aC tpe 8 teg0, cI aC tpb 8 tbf, cI aC tpu 7 tuf, cI aC tpw 7 tvf, cI aC tpq 128 tqf, cI aC tpt 128 ttf, cI aC xr 7 rf, oX4 xn ek ef ew ep es (nI n) (nI sn) dn] (va_pl L (plE aC g))) := jn_Q (wr := [oX11 h0 xp xtp xn xt xk xl xc xo xto xr xch ts ik st, cI aC ek 8 kf, cI aC ef 8 ff, cI aC ew 8 wf, cI aC ep 8 pf, cI aC es 5 stf, oX4 xt tek tef tew tep tes tsz tsy tdn, cI aC tek 8 tkf, cI aC tef 8 tff, cI aC tew 8 twf, cI aC tep 8 tpf, cI aC tes 5 tsf, oX9 xtp tpo tpp tps tpa tpe tpb xt pk tpu tpw tpq tpt tun tfw, cA aC tpo 8 tfo, cA aC tpp 8 tfp, cA aC tps 8 tfs, cK aC pk 7 fk, cO k0 0 [], cO k1 1 [], cO k2 3 [], cO k3 5 [], cO k4 6 [], cO k5 10 [], cO k6 8 [], cI aC tpa 8 tyf, cI aC tpe 8 teg0, cI aC tpb 8 tbf, cI aC tpu 7 tuf, cI aC tpw 7 tvf, cI aC tpq 128 tqf, cI aC tpt 128 ttf, cI aC xr 7 rf]) hFc hk1 hP1 hD1 hP hD [32] [0, 1, 2, 3, 4, 5, 6, 7, 8, 9, 10, 11, 12, 13, 14, 15, 16, 17, 18, 19, 20, 21, 22, 23, 24, 25, 26, 27, 28, 29, 30, 31] rfl rfl (by decide) (by decide)
              have hP := hpd9.1
              have hD := hpd9.2
              clear hpd9
              generalize H1 = H at hP hS ⊢
              clear hPc hDc hFc hz1 hk1 hP1 hD1 ht hvm
              have hz_71 := hw_24
              refine lv_if_eq (tgt := 87) hx hb dX11_byLaw_74 (by decide) (fun c_25 => ?_) (fun c_25 => ?_)
              · have hov := ovx_n hz_71 c_25
                have hsn := sn_lt hev hov
                refine lv_aload_n hx hb dX11_byLaw_87 rfl (lv_at hl 0 rfl) ?_
                refine va_get (D := (dC, dI)) (ci := 11) (v := Value.ref xt) (C := RX11) (T := TX11) (N := 14) hx hb hts inX11 hown hK hP 0 rfl rfl 3 (by decide) (hts _ (gw kw_229 rfl)) (fun _ h9 => h9) rfl dX11_byLaw_88 ?_
                refine lv_aload_n hx hb dX11_byLaw_91 rfl (lv_at hl 0 rfl) ?_
                refine va_get (D := (dC, dI)) (ci := 11) (v := Value.ref xn) (C := RX11) (T := TX11) (N := 14) hx hb hts inX11 hown hK hP 0 rfl rfl 2 (by decide) (hts _ (gw kw_228 rfl)) (fun _ h9 => h9) rfl dX11_byLaw_92 ?_
                have hpd9 := pdf_N (cx := [oX4 xt tek tef tew tep tes tsz tsy tdn, cI aC tek 8 tkf, cI aC tef 8 tff, cI aC tew 8 twf, cI aC tep 8 tpf, cI aC tes 5 tsf, oX4 xn ek ef ew ep es (nI n) (nI sn) dn, cI aC ek 8 kf, cI aC ef 8 ff, cI aC ew 8 wf, cI aC ep 8 pf, cI aC es 5 stf]) hP hD hS hA [6, 7, 8, 9, 10, 11, 32, 1, 2, 3, 4, 5] (by decide) rfl
                have hPc := hpd9.1
                have hDc := hpd9.2.1
                have hFc := hpd9.2.2
                clear hpd9
                refine va_callv (va_runV (As := [Value.ref xn]) (rest := []) ⟨hx, hb, hml, hown, hts⟩ (c_X4_copy l dC dI aC H.size xt xn tek tef tew tep tes ek ef ew ep es tsz tsy tdn (nI n) (nI sn) dn tkf tff twf tpf tsf kf ff wf pf stf tG (hev.2.2.2.2)) ⟨(callB_of 1 hts (gG kw_598) rfl rfl rfl (hts _ (gw kw_2 rfl)) (hts _ (gw kw_595 rfl)) hd_X4_copy ⟨Nat.le_of_ble_eq_true rfl, Nat.le_of_ble_eq_true rfl⟩), (hts _ (gw kw_596 rfl)), (hts _ (gw kw_597 rfl))⟩ ⟨fun a U g mk q => by obtain ⟨q0, q1, qP, qK, qD, qN, z0, z1⟩ := q; exact ⟨q0, q1, qP, va_K.moved (u := U) (U := U.calling g mk a) (Vm.Alike.refl U.vm) qK, qD, NX.same (u := U) (U := U.calling g mk a) rfl qN, va_Z.moved (u := U) (U := U.calling g mk a) (Vm.Alike.refl U.vm) z0, va_T.moved (u := U) (U := U.calling g mk a) (Vm.Alike.refl U.vm) z1⟩, va_recv (q := (RX4, TX4, 8)) hK hPc (ci := 4) (q0 := 0) rfl rfl, fun U hU hW => ⟨rfl, by rw [hU], by rw [hU]; exact hPc, va_K.moved hW.alike hK, hDc.weaken (fun _ _ _ _ => trivial), NX.warm hW hN, by rw [hU]; exact va_Z.moved hW.alike (va_Z.narrow (va_Z.kept hZG hS.2.1) hFc), by rw [hU]; exact va_T.moved hW.alike (va_T.narrow (va_T.kept hTG hS.2.1) hFc)⟩⟩ rfl rfl hl.1 rfl (lv_room (Nat.le_of_ble_eq_true rfl)) dX11_byLaw_95 ⟨Nat.le_of_ble_eq_true rfl, Nat.le_of_ble_eq_true rfl⟩) hS (fun q _ h => hFc q h) hFc (fun u9 t9 H1 locs ht hvm hw_26 hB hz1 hk1 hS => ?_)
                obtain ⟨u_27, u_28, u_29, u_30, u_31⟩ := u9
                obtain ⟨hP1, hK1, hD1⟩ := hB
                rw [ht] at hP1
                clear hK1
                try dsimp only at hw_26
                have hpd9 : PDx (dC, dI) classes A H1 (wp [oX11 h0 xp xtp xn xt xk xl xc xo xto xr xch ts ik st, oX9 xtp tpo tpp tps tpa tpe tpb xt pk tpu tpw tpq tpt tun tfw, cA aC tpo 8 tfo, cA aC tpp 8 tfp, cA aC tps 8 tfs, cK aC pk 7 fk, cO k0 0 [], cO k1 1 [], cO k2 3 [], cO k3 5 [], cO k4 6 [], cO k5 10 [], cO k6 8 [], cI aC tpa 8 tyf, cI aC tpe 8 teg0, cI aC tpb 8 tbf, cI aC tpu 7 tuf, cI aC tpw 7 tvf, cI aC tpq 128 tqf, cI aC tpt 128 ttf, cI aC xr 7 rf, oX4 xt tek tef tew tep tes (nI n) (nI sn) dn, cI aC tek 8 u_27, cI aC tef 8 u_28, cI aC tew 8 u_29, cI aC tep 8 u_30, cI aC tes 5 u_31, oX4 xn ek ef ew ep es (nI n) (nI sn) dn, cI aC ek 8 kf, cI aC ef 8 ff, cI aC ew 8 wf, cI aC ep 8 pf, cI aC es 5 stf] (va_pl L (plE aC g))) := jn_Q (wr := [oX11 h0 xp xtp xn xt xk xl xc xo xto xr xch ts ik st, oX9 xtp tpo tpp tps tpa tpe tpb xt pk tpu tpw tpq tpt tun tfw, cA aC tpo 8 tfo, cA aC tpp 8 tfp, cA aC tps 8 tfs, cK aC pk 7 fk, cO k0 0 [], cO k1 1 [], cO k2 3 [], cO k3 5 [], cO k4 6 [], cO k5 10 [], cO k6 8 [], cI aC tpa 8 tyf, cI aC tpe 8 teg0, cI aC tpb 8 tbf, cI aC tpu 7 tuf, cI aC tpw 7 tvf, cI aC tpq 128 tqf, cI aC tpt 128 ttf, cI aC xr 7 rf]) hFc hk1 hP1 hD1 hP hD [6, 7, 8, 9, 10, 11, 32, 1, 2, 3, 4, 5] [0, 12, 13, 14, 15, 16, 17, 18, 19, 20, 21, 22, 23, 24, 25, 26, 27, 28, 29, 30, 31] rfl rfl (by decide) (by decide)
                have hP := hpd9.1
                have hD := hpd9.2
                clear hpd9
                generalize H1 = H at hP hS ⊢
                clear hPc hDc hFc hz1 hk1 hP1 hD1 ht hvm
                have hc9 := hw_26
                refine lv_aload_n hx hb dX11_byLaw_98 rfl (lv_at hl 0 rfl) ?_
                refine va_get (D := (dC, dI)) (ci := 11) (v := Value.ref xt) (C := RX11) (T := TX11) (N := 14) hx hb hts inX11 hown hK hP 0 rfl rfl 3 (by decide) (hts _ (gw kw_229 rfl)) (fun _ h9 => h9) rfl dX11_byLaw_99 ?_
                refine va_get (D := (dC, dI)) (ci := 4) (v := Value.ref tes) (C := RX4) (T := TX4) (N := 8) hx hb hts inX4 hown hK hP 21 rfl rfl 4 (by decide) (hts _ (gw kw_45 rfl)) (fun _ h9 => h9) rfl dX11_byLaw_102 ?_
                refine lv_iconst (v := 1) hx hb dX11_byLaw_105 (by decide) ?_
                refine lv_iload_n hx hb dX11_byLaw_106 rfl (lv_at hl 1 rfl) ?_
                have h_32 : vp_in 1 5 := by unfold vp_in; decide
                refine va_iast hx hb hK hP hD hS 26 0 rfl rfl h_32 dX11_byLaw_107 (fun H locs hP hD hS => ?_)
                obtain ⟨f_33, e_f_33⟩ : ∃ y : Nat → Int32, y = upd u_31 (1 : Int32).toNatClampNeg (nI xx) := ⟨_, rfl⟩
                have hpd9 : PDx (dC, dI) classes A H (wp [oX11 h0 xp xtp xn xt xk xl xc xo xto xr xch ts ik st, oX9 xtp tpo tpp tps tpa tpe tpb xt pk tpu tpw tpq tpt tun tfw, cA aC tpo 8 tfo, cA aC tpp 8 tfp, cA aC tps 8 tfs, cK aC pk 7 fk, cO k0 0 [], cO k1 1 [], cO k2 3 [], cO k3 5 [], cO k4 6 [], cO k5 10 [], cO k6 8 [], cI aC tpa 8 tyf, cI aC tpe 8 teg0, cI aC tpb 8 tbf, cI aC tpu 7 tuf, cI aC tpw 7 tvf, cI aC tpq 128 tqf, cI aC tpt 128 ttf, cI aC xr 7 rf, oX4 xt tek tef tew tep tes (nI n) (nI sn) dn, cI aC tek 8 u_27, cI aC tef 8 u_28, cI aC tew 8 u_29, cI aC tep 8 u_30, cI aC tes 5 f_33, oX4 xn ek ef ew ep es (nI n) (nI sn) dn, cI aC ek 8 kf, cI aC ef 8 ff, cI aC ew 8 wf, cI aC ep 8 pf, cI aC es 5 stf] (va_pl L (plE aC g))) := by rw [e_f_33]; exact ⟨hP, hD⟩
                have hP := hpd9.1
                have hD := hpd9.2
                clear hpd9
                refine lv_aload_n hx hb dX11_byLaw_108 rfl (lv_at hl 0 rfl) ?_
                refine va_get (D := (dC, dI)) (ci := 11) (v := Value.ref xt) (C := RX11) (T := TX11) (N := 14) hx hb hts inX11 hown hK hP 0 rfl rfl 3 (by decide) (hts _ (gw kw_229 rfl)) (fun _ h9 => h9) rfl dX11_byLaw_109 ?_
                refine va_get (D := (dC, dI)) (ci := 4) (v := Value.ref tes) (C := RX4) (T := TX4) (N := 8) hx hb hts inX4 hown hK hP 21 rfl rfl 4 (by decide) (hts _ (gw kw_45 rfl)) (fun _ h9 => h9) rfl dX11_byLaw_112 ?_
                refine lv_iconst (v := 2) hx hb dX11_byLaw_115 (by decide) ?_
                refine lv_iload_n hx hb dX11_byLaw_116 rfl (lv_at hl 2 rfl) ?_
                have h_34 : vp_in 2 5 := by unfold vp_in; decide
                refine va_iast hx hb hK hP hD hS 26 0 rfl rfl h_34 dX11_byLaw_117 (fun H locs hP hD hS => ?_)
                obtain ⟨f_35, e_f_35⟩ : ∃ y : Nat → Int32, y = upd f_33 (2 : Int32).toNatClampNeg (nI yy) := ⟨_, rfl⟩
                have hpd9 : PDx (dC, dI) classes A H (wp [oX11 h0 xp xtp xn xt xk xl xc xo xto xr xch ts ik st, oX9 xtp tpo tpp tps tpa tpe tpb xt pk tpu tpw tpq tpt tun tfw, cA aC tpo 8 tfo, cA aC tpp 8 tfp, cA aC tps 8 tfs, cK aC pk 7 fk, cO k0 0 [], cO k1 1 [], cO k2 3 [], cO k3 5 [], cO k4 6 [], cO k5 10 [], cO k6 8 [], cI aC tpa 8 tyf, cI aC tpe 8 teg0, cI aC tpb 8 tbf, cI aC tpu 7 tuf, cI aC tpw 7 tvf, cI aC tpq 128 tqf, cI aC tpt 128 ttf, cI aC xr 7 rf, oX4 xt tek tef tew tep tes (nI n) (nI sn) dn, cI aC tek 8 u_27, cI aC tef 8 u_28, cI aC tew 8 u_29, cI aC tep 8 u_30, cI aC tes 5 f_35, oX4 xn ek ef ew ep es (nI n) (nI sn) dn, cI aC ek 8 kf, cI aC ef 8 ff, cI aC ew 8 wf, cI aC ep 8 pf, cI aC es 5 stf] (va_pl L (plE aC g))) := by rw [e_f_35]; exact ⟨hP, hD⟩
                have hP := hpd9.1
                have hD := hpd9.2
                clear hpd9
                have hts9 : ∀ k, k < 5 → f_35 k = if k = 1 then nI xx else if k = 2 then nI yy else stf k := fun k hk => by
                  rw [e_f_35, show ((2 : Int32)).toNatClampNeg = 2 from rfl]
                  by_cases q2 : k = 2
                  · subst q2; rw [pk_us]; rfl
                  · rw [pk_un q2, e_f_33, show ((1 : Int32)).toNatClampNeg = 1 from rfl]
                    by_cases q1 : k = 1
                    · subst q1; rw [pk_us]; rfl
                    · rw [pk_un q1, if_neg q1, if_neg q2]; exact hc9.2.2.2.2 k hk
                have hev9 := EVS_bl (EVS_cp hev hc9.1 hc9.2.1 hc9.2.2.1 (fun k hk => rfl)) hx2 hy1 hts9
                refine lv_aload_n hx hb dX11_byLaw_118 rfl (lv_at hl 0 rfl) ?_
                refine va_get (D := (dC, dI)) (ci := 11) (v := Value.ref xtp) (C := RX11) (T := TX11) (N := 14) hx hb hts inX11 hown hK hP 0 rfl rfl 1 (by decide) (hts _ (gw kw_227 rfl)) (fun _ h9 => h9) rfl dX11_byLaw_119 ?_
                refine lv_aload_n hx hb dX11_byLaw_122 rfl (lv_at hl 0 rfl) ?_
                refine va_get (D := (dC, dI)) (ci := 11) (v := Value.ref xn) (C := RX11) (T := TX11) (N := 14) hx hb hts inX11 hown hK hP 0 rfl rfl 2 (by decide) (hts _ (gw kw_228 rfl)) (fun _ h9 => h9) rfl dX11_byLaw_123 ?_
                refine va_get (D := (dC, dI)) (ci := 4) (v := Value.int (nI sn)) (C := RX4) (T := TX4) (N := 8) hx hb hts inX4 hown hK hP 27 rfl rfl 6 (by decide) (hts _ (gw kw_52 rfl)) (fun _ h9 => h9) rfl dX11_byLaw_126 ?_
                have hpd9 := pdf_P (cx := [oX9 xtp tpo tpp tps tpa tpe tpb xt pk tpu tpw tpq tpt tun tfw, oX4 xt tek tef tew tep tes (nI n) (nI sn) dn, cI aC tek 8 u_27, cI aC tef 8 u_28, cI aC tew 8 u_29, cI aC tes 5 f_35, cA aC tpo 8 tfo, cA aC tpp 8 tfp, cA aC tps 8 tfs, cK aC pk 7 fk, cO k0 0 [], cO k1 1 [], cO k2 3 [], cO k3 5 [], cO k4 6 [], cO k5 10 [], cO k6 8 [], cI aC tpa 8 tyf, cI aC tpe 8 teg0, cI aC tpb 8 tbf, cI aC tpu 7 tuf, cI aC tpw 7 tvf, cI aC tpq 128 tqf, cI aC tpt 128 ttf]) hP hD hS hA [1, 21, 22, 23, 24, 26, 2, 3, 4, 5, 6, 7, 8, 9, 10, 11, 12, 13, 14, 15, 16, 17, 18, 19] (by decide) rfl
                have hPc := hpd9.1
                have hDc := hpd9.2.1
                have hFc := hpd9.2.2
                clear hpd9
                refine va_callv (va_runV (As := [Value.int (nI sn)]) (rest := []) ⟨hx, hb, hml, hown, hts⟩ (c_X9_solve l dC dI aC H.size xtp tpo tpp tps tpa tpe tpb xt pk tpu tpw tpq tpt tun tfw tek tef tew tep tes n (nI sn) dn u_27 u_28 u_29 f_35 K F W0 ((blS S5 xx yy) 0) L g tfo tfp tfs tro trp trs fk k0 k1 k2 k3 k4 k5 k6 (PO n K F W0 (blS S5 xx yy)) sn tuf tvf tqf ttf tbf tyf teg0 (htg) (hev9.1) (hkd) (PO_cl hev9) (by omega)) ⟨(callB_of 1 hts (gG kw_357) rfl rfl rfl (hts _ (gw kw_11 rfl)) (hts _ (gw kw_354 rfl)) hd_X9_solve ⟨Nat.le_of_ble_eq_true rfl, Nat.le_of_ble_eq_true rfl⟩), (hts _ (gw kw_355 rfl)), (hts _ (gw kw_356 rfl))⟩ ⟨fb_std, va_recv (q := (RX9, TX9, 14)) hK hPc (ci := 9) (q0 := 0) rfl rfl, pre_std hPc hK hDc hN⟩ rfl rfl hl.1 rfl (lv_room (Nat.le_of_ble_eq_true rfl)) dX11_byLaw_129 ⟨Nat.le_of_ble_eq_true rfl, Nat.le_of_ble_eq_true rfl⟩) hS (fun q _ h => hFc q h) hFc (fun u9 t9 H1 locs ht hvm hw_36 hB hz1 hk1 hS => ?_)
                obtain ⟨u_37, u_38, u_39, u_40, u_41, u_42, u_43, u_44, u_45, u_46⟩ := u9
                obtain ⟨hP1, hK1, hD1⟩ := hB
                rw [ht] at hP1
                clear hK1
                try dsimp only at hw_36
                have hpd9 : PDx (dC, dI) classes A H1 (wp [oX11 h0 xp xtp xn xt xk xl xc xo xto xr xch ts ik st, cI aC xr 7 rf, cI aC tep 8 u_30, oX4 xn ek ef ew ep es (nI n) (nI sn) dn, cI aC ek 8 kf, cI aC ef 8 ff, cI aC ew 8 wf, cI aC ep 8 pf, cI aC es 5 stf, oX9 xtp tpo tpp tps tpa tpe tpb xt pk tpu tpw tpq tpt u_37 u_38, oX4 xt tek tef tew tep tes (nI n) (nI sn) dn, cI aC tek 8 u_27, cI aC tef 8 u_28, cI aC tew 8 u_29, cI aC tes 5 f_35, cA aC tpo 8 tfo, cA aC tpp 8 tfp, cA aC tps 8 tfs, cK aC pk 7 fk, cO k0 0 [], cO k1 1 [], cO k2 3 [], cO k3 5 [], cO k4 6 [], cO k5 10 [], cO k6 8 [], cI aC tpa 8 u_44, cI aC tpe 8 u_45, cI aC tpb 8 u_43, cI aC tpu 7 u_39, cI aC tpw 7 u_40, cI aC tpq 128 u_41, cI aC tpt 128 u_42] (va_pl L (plE aC u_46))) := jn_P (wr := [oX11 h0 xp xtp xn xt xk xl xc xo xto xr xch ts ik st, cI aC xr 7 rf, cI aC tep 8 u_30, oX4 xn ek ef ew ep es (nI n) (nI sn) dn, cI aC ek 8 kf, cI aC ef 8 ff, cI aC ew 8 wf, cI aC ep 8 pf, cI aC es 5 stf]) hFc hk1 hP1 hD1 hP hD [1, 21, 22, 23, 24, 26, 2, 3, 4, 5, 6, 7, 8, 9, 10, 11, 12, 13, 14, 15, 16, 17, 18, 19] [0, 20, 25, 27, 28, 29, 30, 31, 32] rfl rfl (by decide) (by decide)
                have hP := hpd9.1
                have hD := hpd9.2
                clear hpd9
                generalize H1 = H at hP hS ⊢
                clear hPc hDc hFc hz1 hk1 hP1 hD1 ht hvm
                obtain ⟨ht1, ht2⟩ := hw_36
                refine lv_aload_n hx hb dX11_byLaw_132 rfl (lv_at hl 0 rfl) ?_
                refine va_get (D := (dC, dI)) (ci := 11) (v := Value.ref xtp) (C := RX11) (T := TX11) (N := 14) hx hb hts inX11 hown hK hP 0 rfl rfl 1 (by decide) (hts _ (gw kw_227 rfl)) (fun _ h9 => h9) rfl dX11_byLaw_133 ?_
                refine va_get (D := (dC, dI)) (ci := 9) (v := Value.ref tps) (C := RX9) (T := TX9) (N := 14) hx hb hts inX9 hown hK hP 9 rfl rfl 2 (by decide) (hts _ (gw kw_155 rfl)) (fun _ h9 => h9) rfl dX11_byLaw_136 ?_
                refine lv_aload_n hx hb dX11_byLaw_139 rfl (lv_at hl 0 rfl) ?_
                refine va_get (D := (dC, dI)) (ci := 11) (v := Value.ref xn) (C := RX11) (T := TX11) (N := 14) hx hb hts inX11 hown hK hP 0 rfl rfl 2 (by decide) (hts _ (gw kw_228 rfl)) (fun _ h9 => h9) rfl dX11_byLaw_140 ?_
                refine va_get (D := (dC, dI)) (ci := 4) (v := Value.int (nI sn)) (C := RX4) (T := TX4) (N := 8) hx hb hts inX4 hown hK hP 3 rfl rfl 6 (by decide) (hts _ (gw kw_52 rfl)) (fun _ h9 => h9) rfl dX11_byLaw_143 ?_
                have h_47 : vp_in (nI sn) 8 := by first | exact vp_in_nI (by omega) (by omega) | (unfold vp_in; decide) | (subst_vars; first | (unfold vp_in; decide) | exact vp_in_nI (by omega) (by omega))
                refine va_alda (r := trs sn) hx hb hK hP 17 rfl h_47 (by rw [nI_clamp (by omega)]; exact (htg.1 sn (by omega)).2.2.1) dX11_byLaw_146 ?_
                refine lv_iload_n hx hb dX11_byLaw_147 rfl (lv_at hl 3 rfl) ?_
                have h_48 : vp_in (nI a) 8 := by first | exact vp_in_nI (by omega) (by omega) | (unfold vp_in; decide) | (subst_vars; first | (unfold vp_in; decide) | exact vp_in_nI (by omega) (by omega))
                refine pl_iald hx hb hK hP ((htg.1 sn (by omega)).2.2.2) h_48 dX11_byLaw_148 ?_
                refine lv_topi (fun x_49 e_49 => ?_)
                have hpd9 := pd_P (cx := [oX11 h0 xp xtp xn xt xk xl xc xo xto xr xch ts ik st, oX4 xn ek ef ew ep es (nI n) (nI sn) dn, cI aC ek 8 kf, cI aC ef 8 ff, cI aC ew 8 wf, cI aC ep 8 pf, cI aC es 5 stf, oX4 xt tek tef tew tep tes (nI n) (nI sn) dn, cI aC tek 8 u_27, cI aC tef 8 u_28, cI aC tew 8 u_29, cI aC tep 8 u_30, cI aC tes 5 f_35, oX9 xtp tpo tpp tps tpa tpe tpb xt pk tpu tpw tpq tpt u_37 u_38, cA aC tpo 8 tfo, cA aC tpp 8 tfp, cA aC tps 8 tfs, cK aC pk 7 fk, cO k0 0 [], cO k1 1 [], cO k2 3 [], cO k3 5 [], cO k4 6 [], cO k5 10 [], cO k6 8 [], cI aC tpa 8 u_44, cI aC tpe 8 u_45, cI aC tpb 8 u_43, cI aC tpu 7 u_39, cI aC tpw 7 u_40, cI aC tpq 128 u_41, cI aC tpt 128 u_42, cI aC xr 7 rf]) hP hD [0, 3, 4, 5, 6, 7, 8, 10, 11, 12, 13, 2, 14, 9, 15, 16, 17, 18, 19, 20, 21, 22, 23, 24, 25, 26, 27, 28, 29, 30, 31, 32, 1] (by decide) rfl
                have hP9 := hpd9.1
                have hD9 := hpd9.2
                refine W.widen (k := 0) (n := 0) (by omega) (by omega) ?_
                exact W.iret (v := x_49) hx hb hr (fun t ht hW => ⟨⟨x_49, ((nI n), (nI sn), dn, u_27, u_28, u_29, u_30, f_35, u_37, u_38, u_39, u_40, u_41, u_42, u_43, u_44, u_45, u_46, rf), rfl, ⟨ht2, by rw [e_49, nI_clamp (by omega)]; unfold rByL; rw [if_pos hbk, if_pos ⟨OKI_nI hn8 ha8, Int32.not_lt.mpr c_23⟩, if_neg hov, nI_clamp (by omega), nI_clamp (by omega), nI_clamp (by omega)]; exact (ht1 sn (Nat.le_refl _) hsn).2.2.1 a (by omega)⟩, by rw [ht]; exact hP9, va_K.moved hW.alike hK, hD9⟩, hS.F ht⟩) hS.2.2 dX11_byLaw_149
              · refine lv_ldc hx hb hown (hts _ (gw kw_507 rfl)) dX11_byLaw_77 ?_
                refine lv_aload_n hx hb dX11_byLaw_79 rfl (lv_at hl 0 rfl) ?_
                refine lv_bipush (v := -3) hx hb dX11_byLaw_80 (by decide) ?_
                have hpd9 := pdf_N (cx := [oX11 h0 xp xtp xn xt xk xl xc xo xto xr xch ts ik st, cI aC xr 7 rf]) hP hD hS hA [0, 31] (by decide) rfl
                have hPc := hpd9.1
                have hDc := hpd9.2.1
                have hFc := hpd9.2.2
                clear hpd9
                refine va_calli (va_runV (As := [Value.int (-3)]) (rest := [Value.int 1000000000]) ⟨hx, hb, hml, hown, hts⟩ (c_X11_refuse l dC dI aC H.size h0 xp xtp xn xt xk xl xc xo xto xr xch ts ik st (-3) 3 rf (by decide) (by decide) (by decide) (by unfold vp_in; decide)) ⟨(callB_of 1 hts (gG kw_276) rfl rfl rfl (hts _ (gw kw_1 rfl)) (hts _ (gw kw_273 rfl)) hd_X11_refuse ⟨Nat.le_of_ble_eq_true rfl, Nat.le_of_ble_eq_true rfl⟩), (hts _ (gw kw_275 rfl)), (hts _ (gw ks_0 rfl))⟩ ⟨fb_std, va_recv (q := (RX11, TX11, 14)) hK hPc (ci := 11) (q0 := 0) rfl rfl, pre_std hPc hK hDc hN⟩ rfl rfl hl.1 rfl (lv_room (Nat.le_of_ble_eq_true rfl)) dX11_byLaw_82 ⟨Nat.le_of_ble_eq_true rfl, Nat.le_of_ble_eq_true rfl⟩) hS (fun q _ h => hFc q h) hFc (fun x_50 u9 t9 H1 locs ht hvm hw_50 hB hz1 hk1 hS => ?_)
                obtain ⟨u_51, rfl⟩ : ∃ z, z = u9 := ⟨_, rfl⟩
                obtain ⟨hP1, hK1, hD1⟩ := hB
                rw [ht] at hP1
                clear hK1
                try dsimp only at hw_50
                have hpd9 : PDx (dC, dI) classes A H1 (wp [cI aC ek 8 kf, cI aC ef 8 ff, cI aC ew 8 wf, cI aC ep 8 pf, cI aC es 5 stf, oX4 xt tek tef tew tep tes tsz tsy tdn, cI aC tek 8 tkf, cI aC tef 8 tff, cI aC tew 8 twf, cI aC tep 8 tpf, cI aC tes 5 tsf, oX9 xtp tpo tpp tps tpa tpe tpb xt pk tpu tpw tpq tpt tun tfw, cA aC tpo 8 tfo, cA aC tpp 8 tfp, cA aC tps 8 tfs, cK aC pk 7 fk, cO k0 0 [], cO k1 1 [], cO k2 3 [], cO k3 5 [], cO k4 6 [], cO k5 10 [], cO k6 8 [], cI aC tpa 8 tyf, cI aC tpe 8 teg0, cI aC tpb 8 tbf, cI aC tpu 7 tuf, cI aC tpw 7 tvf, cI aC tpq 128 tqf, cI aC tpt 128 ttf, oX4 xn ek ef ew ep es (nI n) (nI sn) dn, oX11 h0 xp xtp xn xt xk xl xc xo xto xr xch ts ik st, cI aC xr 7 u_51] (va_pl L (plE aC g))) := jn_Q (wr := [cI aC ek 8 kf, cI aC ef 8 ff, cI aC ew 8 wf, cI aC ep 8 pf, cI aC es 5 stf, oX4 xt tek tef tew tep tes tsz tsy tdn, cI aC tek 8 tkf, cI aC tef 8 tff, cI aC tew 8 twf, cI aC tep 8 tpf, cI aC tes 5 tsf, oX9 xtp tpo tpp tps tpa tpe tpb xt pk tpu tpw tpq tpt tun tfw, cA aC tpo 8 tfo, cA aC tpp 8 tfp, cA aC tps 8 tfs, cK aC pk 7 fk, cO k0 0 [], cO k1 1 [], cO k2 3 [], cO k3 5 [], cO k4 6 [], cO k5 10 [], cO k6 8 [], cI aC tpa 8 tyf, cI aC tpe 8 teg0, cI aC tpb 8 tbf, cI aC tpu 7 tuf, cI aC tpw 7 tvf, cI aC tpq 128 tqf, cI aC tpt 128 ttf, oX4 xn ek ef ew ep es (nI n) (nI sn) dn]) hFc hk1 hP1 hD1 hP hD [0, 31] [1, 2, 3, 4, 5, 6, 7, 8, 9, 10, 11, 12, 13, 14, 15, 16, 17, 18, 19, 20, 21, 22, 23, 24, 25, 26, 27, 28, 29, 30, 32] rfl rfl (by decide) (by decide)
                have hP := hpd9.1
                have hD := hpd9.2
                clear hpd9
                generalize H1 = H at hP hS ⊢
                clear hPc hDc hFc hz1 hk1 hP1 hD1 ht hvm
                obtain ⟨hv9, -⟩ := hw_50
                refine lv_isub hx hb dX11_byLaw_85 ?_
                refine lv_topi (fun x_52 e_52 => ?_)
                have hpd9 := pd_P (cx := [oX11 h0 xp xtp xn xt xk xl xc xo xto xr xch ts ik st, oX4 xn ek ef ew ep es (nI n) (nI sn) dn, cI aC ek 8 kf, cI aC ef 8 ff, cI aC ew 8 wf, cI aC ep 8 pf, cI aC es 5 stf, oX4 xt tek tef tew tep tes tsz tsy tdn, cI aC tek 8 tkf, cI aC tef 8 tff, cI aC tew 8 twf, cI aC tep 8 tpf, cI aC tes 5 tsf, oX9 xtp tpo tpp tps tpa tpe tpb xt pk tpu tpw tpq tpt tun tfw, cA aC tpo 8 tfo, cA aC tpp 8 tfp, cA aC tps 8 tfs, cK aC pk 7 fk, cO k0 0 [], cO k1 1 [], cO k2 3 [], cO k3 5 [], cO k4 6 [], cO k5 10 [], cO k6 8 [], cI aC tpa 8 tyf, cI aC tpe 8 teg0, cI aC tpb 8 tbf, cI aC tpu 7 tuf, cI aC tpw 7 tvf, cI aC tpq 128 tqf, cI aC tpt 128 ttf, cI aC xr 7 u_51]) hP hD [31, 30, 0, 1, 2, 3, 4, 5, 6, 7, 8, 9, 10, 11, 12, 13, 14, 15, 16, 17, 18, 19, 20, 21, 22, 23, 24, 25, 26, 27, 28, 29, 32] (by decide) rfl
                have hP9 := hpd9.1
                have hD9 := hpd9.2
                refine W.widen (k := 0) (n := 0) (by omega) (by omega) ?_
                exact W.iret (v := x_52) hx hb hr (fun t ht hW => ⟨⟨x_52, (tsz, tsy, tdn, tkf, tff, twf, tpf, tsf, tun, tfw, tuf, tvf, tqf, ttf, tbf, tyf, teg0, g, u_51), rfl, ⟨fun a _ => rfl, by rw [e_52, hv9]; unfold rByL; rw [if_pos hbk, if_pos ⟨OKI_nI hn8 ha8, Int32.not_lt.mpr c_23⟩, if_pos (ovx_y hn8 hev.2.2.2.2 hz_71 c_25)]; rfl⟩, by rw [ht]; exact hP9, va_K.moved hW.alike hK, hD9⟩, hS.F ht⟩) hS.2.2 dX11_byLaw_86
            · refine lv_ldc hx hb hown (hts _ (gw kw_507 rfl)) dX11_byLaw_58 ?_
              refine lv_aload_n hx hb dX11_byLaw_60 rfl (lv_at hl 0 rfl) ?_
              refine lv_iconst (v := -1) hx hb dX11_byLaw_61 (by decide) ?_
              have hpd9 := pdf_N (cx := [oX11 h0 xp xtp xn xt xk xl xc xo xto xr xch ts ik st, cI aC xr 7 rf]) hP hD hS hA [0, 31] (by decide) rfl
              have hPc := hpd9.1
              have hDc := hpd9.2.1
              have hFc := hpd9.2.2
              clear hpd9
              refine va_calli (va_runV (As := [Value.int (-1)]) (rest := [Value.int 1000000000]) ⟨hx, hb, hml, hown, hts⟩ (c_X11_refuse l dC dI aC H.size h0 xp xtp xn xt xk xl xc xo xto xr xch ts ik st (-1) 1 rf (by decide) (by decide) (by decide) (by unfold vp_in; decide)) ⟨(callB_of 1 hts (gG kw_276) rfl rfl rfl (hts _ (gw kw_1 rfl)) (hts _ (gw kw_273 rfl)) hd_X11_refuse ⟨Nat.le_of_ble_eq_true rfl, Nat.le_of_ble_eq_true rfl⟩), (hts _ (gw kw_275 rfl)), (hts _ (gw ks_0 rfl))⟩ ⟨fb_std, va_recv (q := (RX11, TX11, 14)) hK hPc (ci := 11) (q0 := 0) rfl rfl, pre_std hPc hK hDc hN⟩ rfl rfl hl.1 rfl (lv_room (Nat.le_of_ble_eq_true rfl)) dX11_byLaw_62 ⟨Nat.le_of_ble_eq_true rfl, Nat.le_of_ble_eq_true rfl⟩) hS (fun q _ h => hFc q h) hFc (fun x_53 u9 t9 H1 locs ht hvm hw_53 hB hz1 hk1 hS => ?_)
              obtain ⟨u_54, rfl⟩ : ∃ z, z = u9 := ⟨_, rfl⟩
              obtain ⟨hP1, hK1, hD1⟩ := hB
              rw [ht] at hP1
              clear hK1
              try dsimp only at hw_53
              have hpd9 : PDx (dC, dI) classes A H1 (wp [cI aC ek 8 kf, cI aC ef 8 ff, cI aC ew 8 wf, cI aC ep 8 pf, cI aC es 5 stf, oX4 xt tek tef tew tep tes tsz tsy tdn, cI aC tek 8 tkf, cI aC tef 8 tff, cI aC tew 8 twf, cI aC tep 8 tpf, cI aC tes 5 tsf, oX9 xtp tpo tpp tps tpa tpe tpb xt pk tpu tpw tpq tpt tun tfw, cA aC tpo 8 tfo, cA aC tpp 8 tfp, cA aC tps 8 tfs, cK aC pk 7 fk, cO k0 0 [], cO k1 1 [], cO k2 3 [], cO k3 5 [], cO k4 6 [], cO k5 10 [], cO k6 8 [], cI aC tpa 8 tyf, cI aC tpe 8 teg0, cI aC tpb 8 tbf, cI aC tpu 7 tuf, cI aC tpw 7 tvf, cI aC tpq 128 tqf, cI aC tpt 128 ttf, oX4 xn ek ef ew ep es (nI n) (nI sn) dn, oX11 h0 xp xtp xn xt xk xl xc xo xto xr xch ts ik st, cI aC xr 7 u_54] (va_pl L (plE aC g))) := jn_Q (wr := [cI aC ek 8 kf, cI aC ef 8 ff, cI aC ew 8 wf, cI aC ep 8 pf, cI aC es 5 stf, oX4 xt tek tef tew tep tes tsz tsy tdn, cI aC tek 8 tkf, cI aC tef 8 tff, cI aC tew 8 twf, cI aC tep 8 tpf, cI aC tes 5 tsf, oX9 xtp tpo tpp tps tpa tpe tpb xt pk tpu tpw tpq tpt tun tfw, cA aC tpo 8 tfo, cA aC tpp 8 tfp, cA aC tps 8 tfs, cK aC pk 7 fk, cO k0 0 [], cO k1 1 [], cO k2 3 [], cO k3 5 [], cO k4 6 [], cO k5 10 [], cO k6 8 [], cI aC tpa 8 tyf, cI aC tpe 8 teg0, cI aC tpb 8 tbf, cI aC tpu 7 tuf, cI aC tpw 7 tvf, cI aC tpq 128 tqf, cI aC tpt 128 ttf, oX4 xn ek ef ew ep es (nI n) (nI sn) dn]) hFc hk1 hP1 hD1 hP hD [0, 31] [1, 2, 3, 4, 5, 6, 7, 8, 9, 10, 11, 12, 13, 14, 15, 16, 17, 18, 19, 20, 21, 22, 23, 24, 25, 26, 27, 28, 29, 30, 32] rfl rfl (by decide) (by decide)
              have hP := hpd9.1
              have hD := hpd9.2
              clear hpd9
              generalize H1 = H at hP hS ⊢
              clear hPc hDc hFc hz1 hk1 hP1 hD1 ht hvm
              obtain ⟨hv9, -⟩ := hw_53
              refine lv_isub hx hb dX11_byLaw_65 ?_
              refine lv_topi (fun x_55 e_55 => ?_)
              have hpd9 := pd_P (cx := [oX11 h0 xp xtp xn xt xk xl xc xo xto xr xch ts ik st, oX4 xn ek ef ew ep es (nI n) (nI sn) dn, cI aC ek 8 kf, cI aC ef 8 ff, cI aC ew 8 wf, cI aC ep 8 pf, cI aC es 5 stf, oX4 xt tek tef tew tep tes tsz tsy tdn, cI aC tek 8 tkf, cI aC tef 8 tff, cI aC tew 8 twf, cI aC tep 8 tpf, cI aC tes 5 tsf, oX9 xtp tpo tpp tps tpa tpe tpb xt pk tpu tpw tpq tpt tun tfw, cA aC tpo 8 tfo, cA aC tpp 8 tfp, cA aC tps 8 tfs, cK aC pk 7 fk, cO k0 0 [], cO k1 1 [], cO k2 3 [], cO k3 5 [], cO k4 6 [], cO k5 10 [], cO k6 8 [], cI aC tpa 8 tyf, cI aC tpe 8 teg0, cI aC tpb 8 tbf, cI aC tpu 7 tuf, cI aC tpw 7 tvf, cI aC tpq 128 tqf, cI aC tpt 128 ttf, cI aC xr 7 u_54]) hP hD [31, 30, 0, 1, 2, 3, 4, 5, 6, 7, 8, 9, 10, 11, 12, 13, 14, 15, 16, 17, 18, 19, 20, 21, 22, 23, 24, 25, 26, 27, 28, 29, 32] (by decide) rfl
              have hP9 := hpd9.1
              have hD9 := hpd9.2
              refine W.widen (k := 0) (n := 0) (by omega) (by omega) ?_
              exact W.iret (v := x_55) hx hb hr (fun t ht hW => ⟨⟨x_55, (tsz, tsy, tdn, tkf, tff, twf, tpf, tsf, tun, tfw, tuf, tvf, tqf, ttf, tbf, tyf, teg0, g, u_54), rfl, ⟨fun a _ => rfl, by rw [e_55, hv9]; unfold rByL; rw [if_pos hbk, if_neg (fun q => c_23 (Int32.not_lt.mp q.2))]; rfl⟩, by rw [ht]; exact hP9, va_K.moved hW.alike hK, hD9⟩, hS.F ht⟩) hS.2.2 dX11_byLaw_66
        · refine lv_ldc hx hb hown (hts _ (gw kw_507 rfl)) dX11_byLaw_26 ?_
          refine lv_aload_n hx hb dX11_byLaw_28 rfl (lv_at hl 0 rfl) ?_
          refine lv_bipush (v := -2) hx hb dX11_byLaw_29 (by decide) ?_
          have hpd9 := pdf_N (cx := [oX11 h0 xp xtp xn xt xk xl xc xo xto xr xch ts ik st, cI aC xr 7 rf]) hP hD hS hA [0, 32] (by decide) rfl
          have hPc := hpd9.1
          have hDc := hpd9.2.1
          have hFc := hpd9.2.2
          clear hpd9
          refine va_calli (va_runV (As := [Value.int (-2)]) (rest := [Value.int 1000000000]) ⟨hx, hb, hml, hown, hts⟩ (c_X11_refuse l dC dI aC H.size h0 xp xtp xn xt xk xl xc xo xto xr xch ts ik st (-2) 2 rf (by decide) (by decide) (by decide) (by unfold vp_in; decide)) ⟨(callB_of 1 hts (gG kw_276) rfl rfl rfl (hts _ (gw kw_1 rfl)) (hts _ (gw kw_273 rfl)) hd_X11_refuse ⟨Nat.le_of_ble_eq_true rfl, Nat.le_of_ble_eq_true rfl⟩), (hts _ (gw kw_275 rfl)), (hts _ (gw ks_0 rfl))⟩ ⟨fb_std, va_recv (q := (RX11, TX11, 14)) hK hPc (ci := 11) (q0 := 0) rfl rfl, pre_std hPc hK hDc hN⟩ rfl rfl hl.1 rfl (lv_room (Nat.le_of_ble_eq_true rfl)) dX11_byLaw_31 ⟨Nat.le_of_ble_eq_true rfl, Nat.le_of_ble_eq_true rfl⟩) hS (fun q _ h => hFc q h) hFc (fun x_56 u9 t9 H1 locs ht hvm hw_56 hB hz1 hk1 hS => ?_)
          obtain ⟨u_57, rfl⟩ : ∃ z, z = u9 := ⟨_, rfl⟩
          obtain ⟨hP1, hK1, hD1⟩ := hB
          rw [ht] at hP1
          clear hK1
          try dsimp only at hw_56
          have hpd9 : PDx (dC, dI) classes A H1 (wp [oX4 xn ek ef ew ep es (nI n) (nI sn) dn, cI aC ek 8 kf, cI aC ef 8 ff, cI aC ew 8 wf, cI aC ep 8 pf, cI aC es 5 stf, oX4 xt tek tef tew tep tes tsz tsy tdn, cI aC tek 8 tkf, cI aC tef 8 tff, cI aC tew 8 twf, cI aC tep 8 tpf, cI aC tes 5 tsf, oX9 xtp tpo tpp tps tpa tpe tpb xt pk tpu tpw tpq tpt tun tfw, cA aC tpo 8 tfo, cA aC tpp 8 tfp, cA aC tps 8 tfs, cK aC pk 7 fk, cO k0 0 [], cO k1 1 [], cO k2 3 [], cO k3 5 [], cO k4 6 [], cO k5 10 [], cO k6 8 [], cI aC tpa 8 tyf, cI aC tpe 8 teg0, cI aC tpb 8 tbf, cI aC tpu 7 tuf, cI aC tpw 7 tvf, cI aC tpq 128 tqf, cI aC tpt 128 ttf, oX11 h0 xp xtp xn xt xk xl xc xo xto xr xch ts ik st, cI aC xr 7 u_57] (va_pl L (plE aC g))) := jn_Q (wr := [oX4 xn ek ef ew ep es (nI n) (nI sn) dn, cI aC ek 8 kf, cI aC ef 8 ff, cI aC ew 8 wf, cI aC ep 8 pf, cI aC es 5 stf, oX4 xt tek tef tew tep tes tsz tsy tdn, cI aC tek 8 tkf, cI aC tef 8 tff, cI aC tew 8 twf, cI aC tep 8 tpf, cI aC tes 5 tsf, oX9 xtp tpo tpp tps tpa tpe tpb xt pk tpu tpw tpq tpt tun tfw, cA aC tpo 8 tfo, cA aC tpp 8 tfp, cA aC tps 8 tfs, cK aC pk 7 fk, cO k0 0 [], cO k1 1 [], cO k2 3 [], cO k3 5 [], cO k4 6 [], cO k5 10 [], cO k6 8 [], cI aC tpa 8 tyf, cI aC tpe 8 teg0, cI aC tpb 8 tbf, cI aC tpu 7 tuf, cI aC tpw 7 tvf, cI aC tpq 128 tqf, cI aC tpt 128 ttf]) hFc hk1 hP1 hD1 hP hD [0, 32] [1, 2, 3, 4, 5, 6, 7, 8, 9, 10, 11, 12, 13, 14, 15, 16, 17, 18, 19, 20, 21, 22, 23, 24, 25, 26, 27, 28, 29, 30, 31] rfl rfl (by decide) (by decide)
          have hP := hpd9.1
          have hD := hpd9.2
          clear hpd9
          generalize H1 = H at hP hS ⊢
          clear hPc hDc hFc hz1 hk1 hP1 hD1 ht hvm
          obtain ⟨hv9, -⟩ := hw_56
          refine lv_isub hx hb dX11_byLaw_34 ?_
          refine lv_topi (fun x_58 e_58 => ?_)
          have hpd9 := pd_P (cx := [oX11 h0 xp xtp xn xt xk xl xc xo xto xr xch ts ik st, oX4 xn ek ef ew ep es (nI n) (nI sn) dn, cI aC ek 8 kf, cI aC ef 8 ff, cI aC ew 8 wf, cI aC ep 8 pf, cI aC es 5 stf, oX4 xt tek tef tew tep tes tsz tsy tdn, cI aC tek 8 tkf, cI aC tef 8 tff, cI aC tew 8 twf, cI aC tep 8 tpf, cI aC tes 5 tsf, oX9 xtp tpo tpp tps tpa tpe tpb xt pk tpu tpw tpq tpt tun tfw, cA aC tpo 8 tfo, cA aC tpp 8 tfp, cA aC tps 8 tfs, cK aC pk 7 fk, cO k0 0 [], cO k1 1 [], cO k2 3 [], cO k3 5 [], cO k4 6 [], cO k5 10 [], cO k6 8 [], cI aC tpa 8 tyf, cI aC tpe 8 teg0, cI aC tpb 8 tbf, cI aC tpu 7 tuf, cI aC tpw 7 tvf, cI aC tpq 128 tqf, cI aC tpt 128 ttf, cI aC xr 7 u_57]) hP hD [31, 0, 1, 2, 3, 4, 5, 6, 7, 8, 9, 10, 11, 12, 13, 14, 15, 16, 17, 18, 19, 20, 21, 22, 23, 24, 25, 26, 27, 28, 29, 30, 32] (by decide) rfl
          have hP9 := hpd9.1
          have hD9 := hpd9.2
          refine W.widen (k := 0) (n := 0) (by omega) (by omega) ?_
          exact W.iret (v := x_58) hx hb hr (fun t ht hW => ⟨⟨x_58, (tsz, tsy, tdn, tkf, tff, twf, tpf, tsf, tun, tfw, tuf, tvf, tqf, ttf, tbf, tyf, teg0, g, u_57), rfl, ⟨fun a _ => rfl, by rw [e_58, hv9]; unfold rByL; rw [if_neg (fun q => q.2.2.2 (by have h7 := Int32.not_le.mp c_17; rw [e_16] at h7; exact h7))]; rfl⟩, by rw [ht]; exact hP9, va_K.moved hW.alike hK, hD9⟩, hS.F ht⟩) hS.2.2 dX11_byLaw_35

set_option maxHeartbeats 1000000 in
set_option maxRecDepth 100000 in
/-- X11_fewest -/
theorem c_X11_fewest (l : Launch) (dC : Nat → ClassId) (dI : Nat → Nat → Nat) (aC : Nat → ClassId) (sz : Nat) (h0 : Nat) (xp : Nat) (xtp : Nat) (xn : Nat) (xt : Nat) (xk : Nat) (xl : Nat) (xc : Nat) (xo : Nat) (xto : Nat) (xr : Nat) (xch : Nat) (ts : Int32) (ik : Int32) (st : Int32) (ek : Nat) (ef : Nat) (ew : Nat) (ep : Nat) (es : Nat) (n : Nat) (sn : Nat) (dn : Int32) (kf : Nat → Int32) (ff : Nat → Int32) (wf : Nat → Int32) (pf : Nat → Int32) (stf : Nat → Int32) (tek : Nat) (tef : Nat) (tew : Nat) (tep : Nat) (tes : Nat) (tsz : Int32) (tsy : Int32) (tdn : Int32) (tkf : Nat → Int32) (tff : Nat → Int32) (twf : Nat → Int32) (tpf : Nat → Int32) (tsf : Nat → Int32) (K : Nat → Nat) (F : Nat → Nat) (W0 : Nat → Nat) (S5 : Nat → Nat) (pk : Nat) (fk : Nat → Option Nat) (k0 : Nat) (k1 : Nat) (k2 : Nat) (k3 : Nat) (k4 : Nat) (k5 : Nat) (k6 : Nat) (tpo : Nat) (tpp : Nat) (tps : Nat) (tpa : Nat) (tpe : Nat) (tpb : Nat) (tpu : Nat) (tpw : Nat) (tpq : Nat) (tpt : Nat) (tun : Int32) (tfw : Int32) (tfo : Nat → Option Nat) (tfp : Nat → Option Nat) (tfs : Nat → Option Nat) (tro : Nat → Nat) (trp : Nat → Nat) (trs : Nat → Nat) (tuf : Nat → Int32) (tvf : Nat → Int32) (tqf : Nat → Int32) (ttf : Nat → Int32) (tbf : Nat → Int32) (tyf : Nat → Int32) (teg0 : Nat → Int32) (L : List Nat) (g : Nat → Nat → Int32) (rf : Nat → Int32) (tG : Nat) (hev : EVS n sn dn K F W0 S5 kf ff wf stf) (hkd : KDS fk k0 k1 k2 k3 k4 k5 k6) (htg : GRD L tfo tfp tfs tro trp trs) : Met l yX11_fewest (wW yX11_fewest cX11_fewest 2 (some .int)) ({ frames := 6, cells := 0, slots := 0, locals := 131 } : Room) (va_Pc [Value.ref h0] (fun U => U.heap.size = sz ∧ va_P (dC, dI) classes (wp [oX11 h0 xp xtp xn xt xk xl xc xo xto xr xch ts ik st, oX4 xn ek ef ew ep es (nI n) (nI sn) dn, cI aC ek 8 kf, cI aC ef 8 ff, cI aC ew 8 wf, cI aC ep 8 pf, cI aC es 5 stf, oX4 xt tek tef tew tep tes tsz tsy tdn, cI aC tek 8 tkf, cI aC tef 8 tff, cI aC tew 8 twf, cI aC tep 8 tpf, cI aC tes 5 tsf, oX9 xtp tpo tpp tps tpa tpe tpb xt pk tpu tpw tpq tpt tun tfw, cA aC tpo 8 tfo, cA aC tpp 8 tfp, cA aC tps 8 tfs, cK aC pk 7 fk, cO k0 0 [], cO k1 1 [], cO k2 3 [], cO k3 5 [], cO k4 6 [], cO k5 10 [], cO k6 8 [], cI aC tpa 8 tyf, cI aC tpe 8 teg0, cI aC tpb 8 tbf, cI aC tpu 7 tuf, cI aC tpw 7 tvf, cI aC tpq 128 tqf, cI aC tpt 128 ttf, cI aC xr 7 rf] (va_pl L (plE aC g))) U.heap ∧ va_K (dC, dI) classes (TY aC) U ∧ va_D (fun _ => True) (wp [oX11 h0 xp xtp xn xt xk xl xc xo xto xr xch ts ik st, oX4 xn ek ef ew ep es (nI n) (nI sn) dn, cI aC ek 8 kf, cI aC ef 8 ff, cI aC ew 8 wf, cI aC ep 8 pf, cI aC es 5 stf, oX4 xt tek tef tew tep tes tsz tsy tdn, cI aC tek 8 tkf, cI aC tef 8 tff, cI aC tew 8 twf, cI aC tep 8 tpf, cI aC tes 5 tsf, oX9 xtp tpo tpp tps tpa tpe tpb xt pk tpu tpw tpq tpt tun tfw, cA aC tpo 8 tfo, cA aC tpp 8 tfp, cA aC tps 8 tfs, cK aC pk 7 fk, cO k0 0 [], cO k1 1 [], cO k2 3 [], cO k3 5 [], cO k4 6 [], cO k5 10 [], cO k6 8 [], cI aC tpa 8 tyf, cI aC tpe 8 teg0, cI aC tpb 8 tbf, cI aC tpu 7 tuf, cI aC tpw 7 tvf, cI aC tpq 128 tqf, cI aC tpt 128 ttf, cI aC xr 7 rf] (va_pl L (plE aC g))) ∧ NX U ∧ va_Z "EldestSays" "GREATEST" "[I" (.ref tG) (va_A (wp [oX11 h0 xp xtp xn xt xk xl xc xo xto xr xch ts ik st, oX4 xn ek ef ew ep es (nI n) (nI sn) dn, cI aC ek 8 kf, cI aC ef 8 ff, cI aC ew 8 wf, cI aC ep 8 pf, cI aC es 5 stf, oX4 xt tek tef tew tep tes tsz tsy tdn, cI aC tek 8 tkf, cI aC tef 8 tff, cI aC tew 8 twf, cI aC tep 8 tpf, cI aC tes 5 tsf, oX9 xtp tpo tpp tps tpa tpe tpb xt pk tpu tpw tpq tpt tun tfw, cA aC tpo 8 tfo, cA aC tpp 8 tfp, cA aC tps 8 tfs, cK aC pk 7 fk, cO k0 0 [], cO k1 1 [], cO k2 3 [], cO k3 5 [], cO k4 6 [], cO k5 10 [], cO k6 8 [], cI aC tpa 8 tyf, cI aC tpe 8 teg0, cI aC tpb 8 tbf, cI aC tpu 7 tuf, cI aC tpw 7 tvf, cI aC tpq 128 tqf, cI aC tpt 128 ttf, cI aC xr 7 rf] (va_pl L (plE aC g))) sz) U U.heap ∧ va_T .int tG 5 (fun j => .int (GV j)) (va_A (wp [oX11 h0 xp xtp xn xt xk xl xc xo xto xr xch ts ik st, oX4 xn ek ef ew ep es (nI n) (nI sn) dn, cI aC ek 8 kf, cI aC ef 8 ff, cI aC ew 8 wf, cI aC ep 8 pf, cI aC es 5 stf, oX4 xt tek tef tew tep tes tsz tsy tdn, cI aC tek 8 tkf, cI aC tef 8 tff, cI aC tew 8 twf, cI aC tep 8 tpf, cI aC tes 5 tsf, oX9 xtp tpo tpp tps tpa tpe tpb xt pk tpu tpw tpq tpt tun tfw, cA aC tpo 8 tfo, cA aC tpp 8 tfp, cA aC tps 8 tfs, cK aC pk 7 fk, cO k0 0 [], cO k1 1 [], cO k2 3 [], cO k3 5 [], cO k4 6 [], cO k5 10 [], cO k6 8 [], cI aC tpa 8 tyf, cI aC tpe 8 teg0, cI aC tpb 8 tbf, cI aC tpu 7 tuf, cI aC tpw 7 tvf, cI aC tpq 128 tqf, cI aC tpt 128 ttf, cI aC xr 7 rf] (va_pl L (plE aC g))) sz) U U.heap)) (va_Qi (fun (r : Int32) (u : Int32 × Int32 × Int32 × (Nat → Int32) × (Nat → Int32) × (Nat → Int32) × (Nat → Int32) × (Nat → Int32) × Int32 × Int32 × (Nat → Int32) × (Nat → Int32) × (Nat → Int32) × (Nat → Int32) × (Nat → Int32) × (Nat → Int32) × (Nat → Int32) × (Nat → Nat → Int32) × (Nat → Int32)) => match u with | (tsz2, tsy2, tdn2, tkf2, tff2, twf2, tpf2, tsf2, tun2, tfw2, tuf2, tvf2, tqf2, ttf2, tbf2, tyf2, teg02, g2, rf2) => (∀ a, OFF tro trp trs a → g2 a = g a) ∧ r = rFew n sn dn K F W0 S5) (fun (u : Int32 × Int32 × Int32 × (Nat → Int32) × (Nat → Int32) × (Nat → Int32) × (Nat → Int32) × (Nat → Int32) × Int32 × Int32 × (Nat → Int32) × (Nat → Int32) × (Nat → Int32) × (Nat → Int32) × (Nat → Int32) × (Nat → Int32) × (Nat → Int32) × (Nat → Nat → Int32) × (Nat → Int32)) (t : State) => match u with | (tsz2, tsy2, tdn2, tkf2, tff2, twf2, tpf2, tsf2, tun2, tfw2, tuf2, tvf2, tqf2, ttf2, tbf2, tyf2, teg02, g2, rf2) => va_P (dC, dI) classes (wp [oX11 h0 xp xtp xn xt xk xl xc xo xto xr xch ts ik st, oX4 xn ek ef ew ep es (nI n) (nI sn) dn, cI aC ek 8 kf, cI aC ef 8 ff, cI aC ew 8 wf, cI aC ep 8 pf, cI aC es 5 stf, oX4 xt tek tef tew tep tes tsz2 tsy2 tdn2, cI aC tek 8 tkf2, cI aC tef 8 tff2, cI aC tew 8 twf2, cI aC tep 8 tpf2, cI aC tes 5 tsf2, oX9 xtp tpo tpp tps tpa tpe tpb xt pk tpu tpw tpq tpt tun2 tfw2, cA aC tpo 8 tfo, cA aC tpp 8 tfp, cA aC tps 8 tfs, cK aC pk 7 fk, cO k0 0 [], cO k1 1 [], cO k2 3 [], cO k3 5 [], cO k4 6 [], cO k5 10 [], cO k6 8 [], cI aC tpa 8 tyf2, cI aC tpe 8 teg02, cI aC tpb 8 tbf2, cI aC tpu 7 tuf2, cI aC tpw 7 tvf2, cI aC tpq 128 tqf2, cI aC tpt 128 ttf2, cI aC xr 7 rf2] (va_pl L (plE aC g2))) t.heap ∧ va_K (dC, dI) classes (TY aC) t ∧ va_D (va_A (wp [oX11 h0 xp xtp xn xt xk xl xc xo xto xr xch ts ik st, oX4 xn ek ef ew ep es (nI n) (nI sn) dn, cI aC ek 8 kf, cI aC ef 8 ff, cI aC ew 8 wf, cI aC ep 8 pf, cI aC es 5 stf, oX4 xt tek tef tew tep tes tsz tsy tdn, cI aC tek 8 tkf, cI aC tef 8 tff, cI aC tew 8 twf, cI aC tep 8 tpf, cI aC tes 5 tsf, oX9 xtp tpo tpp tps tpa tpe tpb xt pk tpu tpw tpq tpt tun tfw, cA aC tpo 8 tfo, cA aC tpp 8 tfp, cA aC tps 8 tfs, cK aC pk 7 fk, cO k0 0 [], cO k1 1 [], cO k2 3 [], cO k3 5 [], cO k4 6 [], cO k5 10 [], cO k6 8 [], cI aC tpa 8 tyf, cI aC tpe 8 teg0, cI aC tpb 8 tbf, cI aC tpu 7 tuf, cI aC tpw 7 tvf, cI aC tpq 128 tqf, cI aC tpt 128 ttf, cI aC xr 7 rf] (va_pl L (plE aC g))) sz) (wp [oX11 h0 xp xtp xn xt xk xl xc xo xto xr xch ts ik st, oX4 xn ek ef ew ep es (nI n) (nI sn) dn, cI aC ek 8 kf, cI aC ef 8 ff, cI aC ew 8 wf, cI aC ep 8 pf, cI aC es 5 stf, oX4 xt tek tef tew tep tes tsz2 tsy2 tdn2, cI aC tek 8 tkf2, cI aC tef 8 tff2, cI aC tew 8 twf2, cI aC tep 8 tpf2, cI aC tes 5 tsf2, oX9 xtp tpo tpp tps tpa tpe tpb xt pk tpu tpw tpq tpt tun2 tfw2, cA aC tpo 8 tfo, cA aC tpp 8 tfp, cA aC tps 8 tfs, cK aC pk 7 fk, cO k0 0 [], cO k1 1 [], cO k2 3 [], cO k3 5 [], cO k4 6 [], cO k5 10 [], cO k6 8 [], cI aC tpa 8 tyf2, cI aC tpe 8 teg02, cI aC tpb 8 tbf2, cI aC tpu 7 tuf2, cI aC tpw 7 tvf2, cI aC tpq 128 tqf2, cI aC tpt 128 ttf2, cI aC xr 7 rf2] (va_pl L (plE aC g2)))) (va_A (wp [oX11 h0 xp xtp xn xt xk xl xc xo xto xr xch ts ik st, oX4 xn ek ef ew ep es (nI n) (nI sn) dn, cI aC ek 8 kf, cI aC ef 8 ff, cI aC ew 8 wf, cI aC ep 8 pf, cI aC es 5 stf, oX4 xt tek tef tew tep tes tsz tsy tdn, cI aC tek 8 tkf, cI aC tef 8 tff, cI aC tew 8 twf, cI aC tep 8 tpf, cI aC tes 5 tsf, oX9 xtp tpo tpp tps tpa tpe tpb xt pk tpu tpw tpq tpt tun tfw, cA aC tpo 8 tfo, cA aC tpp 8 tfp, cA aC tps 8 tfs, cK aC pk 7 fk, cO k0 0 [], cO k1 1 [], cO k2 3 [], cO k3 5 [], cO k4 6 [], cO k5 10 [], cO k6 8 [], cI aC tpa 8 tyf, cI aC tpe 8 teg0, cI aC tpb 8 tbf, cI aC tpu 7 tuf, cI aC tpw 7 tvf, cI aC tpq 128 tqf, cI aC tpt 128 ttf, cI aC xr 7 rf] (va_pl L (plE aC g))) sz)) 0 0 (va_A (wp [oX11 h0 xp xtp xn xt xk xl xc xo xto xr xch ts ik st, oX4 xn ek ef ew ep es (nI n) (nI sn) dn, cI aC ek 8 kf, cI aC ef 8 ff, cI aC ew 8 wf, cI aC ep 8 pf, cI aC es 5 stf, oX4 xt tek tef tew tep tes tsz tsy tdn, cI aC tek 8 tkf, cI aC tef 8 tff, cI aC tew 8 twf, cI aC tep 8 tpf, cI aC tes 5 tsf, oX9 xtp tpo tpp tps tpa tpe tpb xt pk tpu tpw tpq tpt tun tfw, cA aC tpo 8 tfo, cA aC tpp 8 tfp, cA aC tps 8 tfs, cK aC pk 7 fk, cO k0 0 [], cO k1 1 [], cO k2 3 [], cO k3 5 [], cO k4 6 [], cO k5 10 [], cO k6 8 [], cI aC tpa 8 tyf, cI aC tpe 8 teg0, cI aC tpb 8 tbf, cI aC tpu 7 tuf, cI aC tpw 7 tvf, cI aC tpq 128 tqf, cI aC tpt 128 ttf, cI aC xr 7 rf] (va_pl L (plE aC g))) sz) := by
  refine Met.ofW (cc := cX11_fewest) (maxL := 2) (ret := (some .int)) (by decide) rfl ?_
  intro p e s m args below meth c s₁ B hml hv
  obtain ⟨rfl, hsz, hP, hK, hD0, hN, hZG, hTG⟩ := hv
  have hx := B.exec
  have hb := B.bytes
  have hr := B.returns
  have hts0 := atoms_spec (ws := (wW yX11_fewest cX11_fewest 2 (some .int))) B.pre
  have hts : ∀ w9 ∈ lw_G, w9.before ([Value.ref h0] : List Value).toArray s = true := fun w9 h9 => hts0 w9 (List.mem_cons_of_mem _ h9)
  have hown : s.vm.findClass RX11 = some m.cls := findClass_of_methodNamed (x := yX11_fewest) B.named
  have hlocks := B.notSynchronized
  subst hsz
  have hD := hD0.self (sz := s.heap.size)
  generalize hAe : va_A (wp [oX11 h0 xp xtp xn xt xk xl xc xo xto xr xch ts ik st, oX4 xn ek ef ew ep es (nI n) (nI sn) dn, cI aC ek 8 kf, cI aC ef 8 ff, cI aC ew 8 wf, cI aC ep 8 pf, cI aC es 5 stf, oX4 xt tek tef tew tep tes tsz tsy tdn, cI aC tek 8 tkf, cI aC tef 8 tff, cI aC tew 8 twf, cI aC tep 8 tpf, cI aC tes 5 tsf, oX9 xtp tpo tpp tps tpa tpe tpb xt pk tpu tpw tpq tpt tun tfw, cA aC tpo 8 tfo, cA aC tpp 8 tfp, cA aC tps 8 tfs, cK aC pk 7 fk, cO k0 0 [], cO k1 1 [], cO k2 3 [], cO k3 5 [], cO k4 6 [], cO k5 10 [], cO k6 8 [], cI aC tpa 8 tyf, cI aC tpe 8 teg0, cI aC tpb 8 tbf, cI aC tpu 7 tuf, cI aC tpw 7 tvf, cI aC tpq 128 tqf, cI aC tpt 128 ttf, cI aC xr 7 rf] (va_pl L (plE aC g))) s.heap.size = A at hZG hTG hD ⊢
  have hA : ∀ q : Nat, s.heap.size ≤ q → A q := fun q h => by rw [← hAe]; exact Or.inr h
  obtain ⟨H, hHe⟩ : ∃ H : Heap, H = s.heap := ⟨_, rfl⟩
  have hS : va_S A s.heap H [] := by rw [hHe]; exact va_S.rf
  have hP : va_P (dC, dI) classes (wp [oX11 h0 xp xtp xn xt xk xl xc xo xto xr xch ts ik st, oX4 xn ek ef ew ep es (nI n) (nI sn) dn, cI aC ek 8 kf, cI aC ef 8 ff, cI aC ew 8 wf, cI aC ep 8 pf, cI aC es 5 stf, oX4 xt tek tef tew tep tes tsz tsy tdn, cI aC tek 8 tkf, cI aC tef 8 tff, cI aC tew 8 twf, cI aC tep 8 tpf, cI aC tes 5 tsf, oX9 xtp tpo tpp tps tpa tpe tpb xt pk tpu tpw tpq tpt tun tfw, cA aC tpo 8 tfo, cA aC tpp 8 tfp, cA aC tps 8 tfs, cK aC pk 7 fk, cO k0 0 [], cO k1 1 [], cO k2 3 [], cO k3 5 [], cO k4 6 [], cO k5 10 [], cO k6 8 [], cI aC tpa 8 tyf, cI aC tpe 8 teg0, cI aC tpb 8 tbf, cI aC tpu 7 tuf, cI aC tpw 7 tvf, cI aC tpq 128 tqf, cI aC tpt 128 ttf, cI aC xr 7 rf] (va_pl L (plE aC g))) H := by rw [hHe]; exact hP
  have hl := lv_entry ([Value.ref h0]) (n := 2) (Nat.le_of_ble_eq_true rfl)
  rw [lg_entry_eq]
  generalize (lg_sl ([Value.ref h0]) ++ List.replicate (2 - (lg_sl ([Value.ref h0])).length) Slot.unset).toArray = ls at hl ⊢
  have hl : lv_has ls 2 [(0, Value.ref h0)] := hl
  rw [← hHe]
  have hn8 := EVS_n hev
  refine lv_aload_n hx hb dX11_fewest_0 rfl (lv_at hl 0 rfl) ?_
  refine va_get (D := (dC, dI)) (ci := 11) (v := Value.ref xn) (C := RX11) (T := TX11) (N := 14) hx hb hts inX11 hown hK hP 0 rfl rfl 2 (by decide) (hts _ (gw kw_228 rfl)) (fun _ h9 => h9) rfl dX11_fewest_1 ?_
  have hpd9 := pdf_N (cx := [oX4 xn ek ef ew ep es (nI n) (nI sn) dn]) hP hD hS hA [1] (by decide) rfl
  have hPc := hpd9.1
  have hDc := hpd9.2.1
  have hFc := hpd9.2.2
  clear hpd9
  refine va_calli (va_runV (As := []) (rest := []) ⟨hx, hb, hml, hown, hts⟩ (c_X4_isOver l dC dI aC H.size xn ek ef ew ep es (nI n) (nI sn) dn ) ⟨(callB_of 0 hts (gG kw_523) rfl rfl rfl (hts _ (gw kw_2 rfl)) (hts _ (gw kw_520 rfl)) hd_X4_isOver ⟨Nat.le_of_ble_eq_true rfl, Nat.le_of_ble_eq_true rfl⟩), (hts _ (gw kw_521 rfl)), (hts _ (gw kw_522 rfl))⟩ ⟨fb_std, va_recv (q := (RX4, TX4, 8)) hK hPc (ci := 4) (q0 := 0) rfl rfl, pre_std hPc hK hDc hN⟩ rfl rfl hl.1 rfl (lv_room (Nat.le_of_ble_eq_true rfl)) dX11_fewest_4 ⟨Nat.le_of_ble_eq_true rfl, Nat.le_of_ble_eq_true rfl⟩) hS (fun q _ h => hFc q h) hFc (fun x_1 u9 t9 H1 locs ht hvm hw_1 hB hz1 hk1 hS => ?_)
  obtain ⟨hP1, hK1, hD1⟩ := hB
  rw [ht] at hP1
  clear hK1
  try dsimp only at hw_1
  have hpd9 : PDx (dC, dI) classes A H1 (wp [oX11 h0 xp xtp xn xt xk xl xc xo xto xr xch ts ik st, cI aC ek 8 kf, cI aC ef 8 ff, cI aC ew 8 wf, cI aC ep 8 pf, cI aC es 5 stf, oX4 xt tek tef tew tep tes tsz tsy tdn, cI aC tek 8 tkf, cI aC tef 8 tff, cI aC tew 8 twf, cI aC tep 8 tpf, cI aC tes 5 tsf, oX9 xtp tpo tpp tps tpa tpe tpb xt pk tpu tpw tpq tpt tun tfw, cA aC tpo 8 tfo, cA aC tpp 8 tfp, cA aC tps 8 tfs, cK aC pk 7 fk, cO k0 0 [], cO k1 1 [], cO k2 3 [], cO k3 5 [], cO k4 6 [], cO k5 10 [], cO k6 8 [], cI aC tpa 8 tyf, cI aC tpe 8 teg0, cI aC tpb 8 tbf, cI aC tpu 7 tuf, cI aC tpw 7 tvf, cI aC tpq 128 tqf, cI aC tpt 128 ttf, cI aC xr 7 rf, oX4 xn ek ef ew ep es (nI n) (nI sn) dn] (va_pl L (plE aC g))) := jn_Q (wr := [oX11 h0 xp xtp xn xt xk xl xc xo xto xr xch ts ik st, cI aC ek 8 kf, cI aC ef 8 ff, cI aC ew 8 wf, cI aC ep 8 pf, cI aC es 5 stf, oX4 xt tek tef tew tep tes tsz tsy tdn, cI aC tek 8 tkf, cI aC tef 8 tff, cI aC tew 8 twf, cI aC tep 8 tpf, cI aC tes 5 tsf, oX9 xtp tpo tpp tps tpa tpe tpb xt pk tpu tpw tpq tpt tun tfw, cA aC tpo 8 tfo, cA aC tpp 8 tfp, cA aC tps 8 tfs, cK aC pk 7 fk, cO k0 0 [], cO k1 1 [], cO k2 3 [], cO k3 5 [], cO k4 6 [], cO k5 10 [], cO k6 8 [], cI aC tpa 8 tyf, cI aC tpe 8 teg0, cI aC tpb 8 tbf, cI aC tpu 7 tuf, cI aC tpw 7 tvf, cI aC tpq 128 tqf, cI aC tpt 128 ttf, cI aC xr 7 rf]) hFc hk1 hP1 hD1 hP hD [1] [0, 2, 3, 4, 5, 6, 7, 8, 9, 10, 11, 12, 13, 14, 15, 16, 17, 18, 19, 20, 21, 22, 23, 24, 25, 26, 27, 28, 29, 30, 31, 32] rfl rfl (by decide) (by decide)
  have hP := hpd9.1
  have hD := hpd9.2
  clear hpd9
  generalize H1 = H at hP hS ⊢
  clear hPc hDc hFc hz1 hk1 hP1 hD1 ht hvm
  have hz_4 := hw_1
  refine lv_if_eq (tgt := 17) hx hb dX11_fewest_7 (by decide) (fun c_2 => ?_) (fun c_2 => ?_)
  · have hov := ovx_n hz_4 c_2
    have hsn := sn_lt hev hov
    refine lv_aload_n hx hb dX11_fewest_17 rfl (lv_at hl 0 rfl) ?_
    refine va_get (D := (dC, dI)) (ci := 11) (v := Value.ref xt) (C := RX11) (T := TX11) (N := 14) hx hb hts inX11 hown hK hP 0 rfl rfl 3 (by decide) (hts _ (gw kw_229 rfl)) (fun _ h9 => h9) rfl dX11_fewest_18 ?_
    refine lv_aload_n hx hb dX11_fewest_21 rfl (lv_at hl 0 rfl) ?_
    refine va_get (D := (dC, dI)) (ci := 11) (v := Value.ref xn) (C := RX11) (T := TX11) (N := 14) hx hb hts inX11 hown hK hP 0 rfl rfl 2 (by decide) (hts _ (gw kw_228 rfl)) (fun _ h9 => h9) rfl dX11_fewest_22 ?_
    have hpd9 := pdf_N (cx := [oX4 xt tek tef tew tep tes tsz tsy tdn, cI aC tek 8 tkf, cI aC tef 8 tff, cI aC tew 8 twf, cI aC tep 8 tpf, cI aC tes 5 tsf, oX4 xn ek ef ew ep es (nI n) (nI sn) dn, cI aC ek 8 kf, cI aC ef 8 ff, cI aC ew 8 wf, cI aC ep 8 pf, cI aC es 5 stf]) hP hD hS hA [6, 7, 8, 9, 10, 11, 32, 1, 2, 3, 4, 5] (by decide) rfl
    have hPc := hpd9.1
    have hDc := hpd9.2.1
    have hFc := hpd9.2.2
    clear hpd9
    refine va_callv (va_runV (As := [Value.ref xn]) (rest := []) ⟨hx, hb, hml, hown, hts⟩ (c_X4_copy l dC dI aC H.size xt xn tek tef tew tep tes ek ef ew ep es tsz tsy tdn (nI n) (nI sn) dn tkf tff twf tpf tsf kf ff wf pf stf tG (hev.2.2.2.2)) ⟨(callB_of 1 hts (gG kw_598) rfl rfl rfl (hts _ (gw kw_2 rfl)) (hts _ (gw kw_595 rfl)) hd_X4_copy ⟨Nat.le_of_ble_eq_true rfl, Nat.le_of_ble_eq_true rfl⟩), (hts _ (gw kw_596 rfl)), (hts _ (gw kw_597 rfl))⟩ ⟨fun a U g mk q => by obtain ⟨q0, q1, qP, qK, qD, qN, z0, z1⟩ := q; exact ⟨q0, q1, qP, va_K.moved (u := U) (U := U.calling g mk a) (Vm.Alike.refl U.vm) qK, qD, NX.same (u := U) (U := U.calling g mk a) rfl qN, va_Z.moved (u := U) (U := U.calling g mk a) (Vm.Alike.refl U.vm) z0, va_T.moved (u := U) (U := U.calling g mk a) (Vm.Alike.refl U.vm) z1⟩, va_recv (q := (RX4, TX4, 8)) hK hPc (ci := 4) (q0 := 0) rfl rfl, fun U hU hW => ⟨rfl, by rw [hU], by rw [hU]; exact hPc, va_K.moved hW.alike hK, hDc.weaken (fun _ _ _ _ => trivial), NX.warm hW hN, by rw [hU]; exact va_Z.moved hW.alike (va_Z.narrow (va_Z.kept hZG hS.2.1) hFc), by rw [hU]; exact va_T.moved hW.alike (va_T.narrow (va_T.kept hTG hS.2.1) hFc)⟩⟩ rfl rfl hl.1 rfl (lv_room (Nat.le_of_ble_eq_true rfl)) dX11_fewest_25 ⟨Nat.le_of_ble_eq_true rfl, Nat.le_of_ble_eq_true rfl⟩) hS (fun q _ h => hFc q h) hFc (fun u9 t9 H1 locs ht hvm hw_3 hB hz1 hk1 hS => ?_)
    obtain ⟨u_4, u_5, u_6, u_7, u_8⟩ := u9
    obtain ⟨hP1, hK1, hD1⟩ := hB
    rw [ht] at hP1
    clear hK1
    try dsimp only at hw_3
    have hpd9 : PDx (dC, dI) classes A H1 (wp [oX11 h0 xp xtp xn xt xk xl xc xo xto xr xch ts ik st, oX9 xtp tpo tpp tps tpa tpe tpb xt pk tpu tpw tpq tpt tun tfw, cA aC tpo 8 tfo, cA aC tpp 8 tfp, cA aC tps 8 tfs, cK aC pk 7 fk, cO k0 0 [], cO k1 1 [], cO k2 3 [], cO k3 5 [], cO k4 6 [], cO k5 10 [], cO k6 8 [], cI aC tpa 8 tyf, cI aC tpe 8 teg0, cI aC tpb 8 tbf, cI aC tpu 7 tuf, cI aC tpw 7 tvf, cI aC tpq 128 tqf, cI aC tpt 128 ttf, cI aC xr 7 rf, oX4 xt tek tef tew tep tes (nI n) (nI sn) dn, cI aC tek 8 u_4, cI aC tef 8 u_5, cI aC tew 8 u_6, cI aC tep 8 u_7, cI aC tes 5 u_8, oX4 xn ek ef ew ep es (nI n) (nI sn) dn, cI aC ek 8 kf, cI aC ef 8 ff, cI aC ew 8 wf, cI aC ep 8 pf, cI aC es 5 stf] (va_pl L (plE aC g))) := jn_Q (wr := [oX11 h0 xp xtp xn xt xk xl xc xo xto xr xch ts ik st, oX9 xtp tpo tpp tps tpa tpe tpb xt pk tpu tpw tpq tpt tun tfw, cA aC tpo 8 tfo, cA aC tpp 8 tfp, cA aC tps 8 tfs, cK aC pk 7 fk, cO k0 0 [], cO k1 1 [], cO k2 3 [], cO k3 5 [], cO k4 6 [], cO k5 10 [], cO k6 8 [], cI aC tpa 8 tyf, cI aC tpe 8 teg0, cI aC tpb 8 tbf, cI aC tpu 7 tuf, cI aC tpw 7 tvf, cI aC tpq 128 tqf, cI aC tpt 128 ttf, cI aC xr 7 rf]) hFc hk1 hP1 hD1 hP hD [6, 7, 8, 9, 10, 11, 32, 1, 2, 3, 4, 5] [0, 12, 13, 14, 15, 16, 17, 18, 19, 20, 21, 22, 23, 24, 25, 26, 27, 28, 29, 30, 31] rfl rfl (by decide) (by decide)
    have hP := hpd9.1
    have hD := hpd9.2
    clear hpd9
    generalize H1 = H at hP hS ⊢
    clear hPc hDc hFc hz1 hk1 hP1 hD1 ht hvm
    have hc9 := hw_3
    refine lv_iconst (v := 0) hx hb dX11_fewest_28 (by decide) ?_
    refine lv_istore_n (lv' := [(1, Value.int 0), (0, Value.ref h0)]) hx hb dX11_fewest_29 rfl hl (by decide) rfl (fun ls hl => ?_)
    have lp_30 : ∀ (fu : Nat) (cc : Nat) (tsc : Nat → Int32) (tunc : Int32) (tfwc : Int32) (tufc : Nat → Int32) (tvfc : Nat → Int32) (tqfc : Nat → Int32) (ttfc : Nat → Int32) (tbfc : Nat → Int32) (tyfc : Nat → Int32) (teg0c : Nat → Int32) (gc : Nat → Nat → Int32) (hfu : 100 - cc < fu) (hcc : cc ≤ 100) (hsc : ∀ k, k < 5 → 0 < k → tsc k = stf k) (hof : ∀ a, OFF tro trp trs a → gc a = g a) (hfw : few n sn K F W0 S5 0 100 = few n sn K F W0 S5 cc (100 - cc)) (H : Heap) (locs : List Loc) (ls : Array Slot), va_P (dC, dI) classes (wp [oX11 h0 xp xtp xn xt xk xl xc xo xto xr xch ts ik st, oX9 xtp tpo tpp tps tpa tpe tpb xt pk tpu tpw tpq tpt tunc tfwc, cA aC tpo 8 tfo, cA aC tpp 8 tfp, cA aC tps 8 tfs, cK aC pk 7 fk, cO k0 0 [], cO k1 1 [], cO k2 3 [], cO k3 5 [], cO k4 6 [], cO k5 10 [], cO k6 8 [], cI aC tpa 8 tyfc, cI aC tpe 8 teg0c, cI aC tpb 8 tbfc, cI aC tpu 7 tufc, cI aC tpw 7 tvfc, cI aC tpq 128 tqfc, cI aC tpt 128 ttfc, cI aC xr 7 rf, oX4 xt tek tef tew tep tes (nI n) (nI sn) dn, cI aC tek 8 u_4, cI aC tef 8 u_5, cI aC tew 8 u_6, cI aC tep 8 u_7, cI aC tes 5 tsc, oX4 xn ek ef ew ep es (nI n) (nI sn) dn, cI aC ek 8 kf, cI aC ef 8 ff, cI aC ew 8 wf, cI aC ep 8 pf, cI aC es 5 stf] (va_pl L (plE aC gc))) H → va_D A (wp [oX11 h0 xp xtp xn xt xk xl xc xo xto xr xch ts ik st, oX9 xtp tpo tpp tps tpa tpe tpb xt pk tpu tpw tpq tpt tunc tfwc, cA aC tpo 8 tfo, cA aC tpp 8 tfp, cA aC tps 8 tfs, cK aC pk 7 fk, cO k0 0 [], cO k1 1 [], cO k2 3 [], cO k3 5 [], cO k4 6 [], cO k5 10 [], cO k6 8 [], cI aC tpa 8 tyfc, cI aC tpe 8 teg0c, cI aC tpb 8 tbfc, cI aC tpu 7 tufc, cI aC tpw 7 tvfc, cI aC tpq 128 tqfc, cI aC tpt 128 ttfc, cI aC xr 7 rf, oX4 xt tek tef tew tep tes (nI n) (nI sn) dn, cI aC tek 8 u_4, cI aC tef 8 u_5, cI aC tew 8 u_6, cI aC tep 8 u_7, cI aC tes 5 tsc, oX4 xn ek ef ew ep es (nI n) (nI sn) dn, cI aC ek 8 kf, cI aC ef 8 ff, cI aC ew 8 wf, cI aC ep 8 pf, cI aC es 5 stf] (va_pl L (plE aC gc))) → va_S A s.heap H locs → lv_has ls 2 [(0, Value.ref h0), (1, Value.int (nI cc))] → W p l e (headSpec (wW yX11_fewest cX11_fewest 2 (some .int)) ({ frames := 6, cells := 0, slots := 0, locals := 131 } : Room)).room s m ([Value.ref h0] : List Value).toArray below meth c H locs 0 0 (MQ below (va_Qi (fun (r : Int32) (u : Int32 × Int32 × Int32 × (Nat → Int32) × (Nat → Int32) × (Nat → Int32) × (Nat → Int32) × (Nat → Int32) × Int32 × Int32 × (Nat → Int32) × (Nat → Int32) × (Nat → Int32) × (Nat → Int32) × (Nat → Int32) × (Nat → Int32) × (Nat → Int32) × (Nat → Nat → Int32) × (Nat → Int32)) => match u with | (tsz2, tsy2, tdn2, tkf2, tff2, twf2, tpf2, tsf2, tun2, tfw2, tuf2, tvf2, tqf2, ttf2, tbf2, tyf2, teg02, g2, rf2) => (∀ a, OFF tro trp trs a → g2 a = g a) ∧ r = rFew n sn dn K F W0 S5) (fun (u : Int32 × Int32 × Int32 × (Nat → Int32) × (Nat → Int32) × (Nat → Int32) × (Nat → Int32) × (Nat → Int32) × Int32 × Int32 × (Nat → Int32) × (Nat → Int32) × (Nat → Int32) × (Nat → Int32) × (Nat → Int32) × (Nat → Int32) × (Nat → Int32) × (Nat → Nat → Int32) × (Nat → Int32)) (t : State) => match u with | (tsz2, tsy2, tdn2, tkf2, tff2, twf2, tpf2, tsf2, tun2, tfw2, tuf2, tvf2, tqf2, ttf2, tbf2, tyf2, teg02, g2, rf2) => va_P (dC, dI) classes (wp [oX11 h0 xp xtp xn xt xk xl xc xo xto xr xch ts ik st, oX4 xn ek ef ew ep es (nI n) (nI sn) dn, cI aC ek 8 kf, cI aC ef 8 ff, cI aC ew 8 wf, cI aC ep 8 pf, cI aC es 5 stf, oX4 xt tek tef tew tep tes tsz2 tsy2 tdn2, cI aC tek 8 tkf2, cI aC tef 8 tff2, cI aC tew 8 twf2, cI aC tep 8 tpf2, cI aC tes 5 tsf2, oX9 xtp tpo tpp tps tpa tpe tpb xt pk tpu tpw tpq tpt tun2 tfw2, cA aC tpo 8 tfo, cA aC tpp 8 tfp, cA aC tps 8 tfs, cK aC pk 7 fk, cO k0 0 [], cO k1 1 [], cO k2 3 [], cO k3 5 [], cO k4 6 [], cO k5 10 [], cO k6 8 [], cI aC tpa 8 tyf2, cI aC tpe 8 teg02, cI aC tpb 8 tbf2, cI aC tpu 7 tuf2, cI aC tpw 7 tvf2, cI aC tpq 128 tqf2, cI aC tpt 128 ttf2, cI aC xr 7 rf2] (va_pl L (plE aC g2))) t.heap ∧ va_K (dC, dI) classes (TY aC) t ∧ va_D A (wp [oX11 h0 xp xtp xn xt xk xl xc xo xto xr xch ts ik st, oX4 xn ek ef ew ep es (nI n) (nI sn) dn, cI aC ek 8 kf, cI aC ef 8 ff, cI aC ew 8 wf, cI aC ep 8 pf, cI aC es 5 stf, oX4 xt tek tef tew tep tes tsz2 tsy2 tdn2, cI aC tek 8 tkf2, cI aC tef 8 tff2, cI aC tew 8 twf2, cI aC tep 8 tpf2, cI aC tes 5 tsf2, oX9 xtp tpo tpp tps tpa tpe tpb xt pk tpu tpw tpq tpt tun2 tfw2, cA aC tpo 8 tfo, cA aC tpp 8 tfp, cA aC tps 8 tfs, cK aC pk 7 fk, cO k0 0 [], cO k1 1 [], cO k2 3 [], cO k3 5 [], cO k4 6 [], cO k5 10 [], cO k6 8 [], cI aC tpa 8 tyf2, cI aC tpe 8 teg02, cI aC tpb 8 tbf2, cI aC tpu 7 tuf2, cI aC tpw 7 tvf2, cI aC tpq 128 tqf2, cI aC tpt 128 ttf2, cI aC xr 7 rf2] (va_pl L (plE aC g2)))) A) ([Value.ref h0] : List Value).toArray s 0 0 A) (F0 m 30 ls []) := by
      intro fu
      induction fu with
      | zero => intro cc tsc tunc tfwc tufc tvfc tqfc ttfc tbfc tyfc teg0c gc hfu; exact absurd hfu (Nat.not_lt_zero _)
      | succ fu ih_30 =>
        intro cc tsc tunc tfwc tufc tvfc tqfc ttfc tbfc tyfc teg0c gc hfu hcc hsc hof hfw H locs ls hP hD hS hl
        refine lv_iload_n hx hb dX11_fewest_30 rfl (lv_at hl 1 rfl) ?_
        refine lv_bipush (v := 99) hx hb dX11_fewest_31 (by decide) ?_
        refine lv_icmp_gt (tgt := 93) hx hb dX11_fewest_33 (by decide) (fun c_9 => ?_) (fun c_9 => ?_)
        · refine lv_bipush (v := -9) hx hb dX11_fewest_93 (by decide) ?_
          have hpd9 := pd_P (cx := [oX11 h0 xp xtp xn xt xk xl xc xo xto xr xch ts ik st, oX4 xn ek ef ew ep es (nI n) (nI sn) dn, cI aC ek 8 kf, cI aC ef 8 ff, cI aC ew 8 wf, cI aC ep 8 pf, cI aC es 5 stf, oX4 xt tek tef tew tep tes (nI n) (nI sn) dn, cI aC tek 8 u_4, cI aC tef 8 u_5, cI aC tew 8 u_6, cI aC tep 8 u_7, cI aC tes 5 tsc, oX9 xtp tpo tpp tps tpa tpe tpb xt pk tpu tpw tpq tpt tunc tfwc, cA aC tpo 8 tfo, cA aC tpp 8 tfp, cA aC tps 8 tfs, cK aC pk 7 fk, cO k0 0 [], cO k1 1 [], cO k2 3 [], cO k3 5 [], cO k4 6 [], cO k5 10 [], cO k6 8 [], cI aC tpa 8 tyfc, cI aC tpe 8 teg0c, cI aC tpb 8 tbfc, cI aC tpu 7 tufc, cI aC tpw 7 tvfc, cI aC tpq 128 tqfc, cI aC tpt 128 ttfc, cI aC xr 7 rf]) hP hD [0, 27, 28, 29, 30, 31, 32, 21, 22, 23, 24, 25, 26, 1, 2, 3, 4, 5, 6, 7, 8, 9, 10, 11, 12, 13, 14, 15, 16, 17, 18, 19, 20] (by decide) rfl
          have hP9 := hpd9.1
          have hD9 := hpd9.2
          refine W.widen (k := 0) (n := 0) (by omega) (by omega) ?_
          exact W.iret (v := -9) hx hb hr (fun t ht hW => ⟨⟨(-9), ((nI n), (nI sn), dn, u_4, u_5, u_6, u_7, tsc, tunc, tfwc, tufc, tvfc, tqfc, ttfc, tbfc, tyfc, teg0c, gc, rf), rfl, ⟨hof, by unfold rFew; rw [if_neg hov, hfw, show 100 - cc = 0 from by rcases Nat.lt_or_ge cc 100 with q | q <;> first | exact absurd ((nI_ltI (a := 99) (b := cc) (by omega) (by omega)).mp c_9) (by omega) | omega]; rfl⟩, by rw [ht]; exact hP9, va_K.moved hW.alike hK, hD9⟩, hS.F ht⟩) hS.2.2 dX11_fewest_95
        · have hlt : cc < 100 := by
            rcases Nat.lt_or_ge cc 100 with q | q
            · exact q
            · exact absurd (nI_lt (a := 99) (b := cc) (by omega) (by omega)) c_9
          refine lv_aload_n hx hb dX11_fewest_36 rfl (lv_at hl 0 rfl) ?_
          refine va_get (D := (dC, dI)) (ci := 11) (v := Value.ref xt) (C := RX11) (T := TX11) (N := 14) hx hb hts inX11 hown hK hP 0 rfl rfl 3 (by decide) (hts _ (gw kw_229 rfl)) (fun _ h9 => h9) rfl dX11_fewest_37 ?_
          refine va_get (D := (dC, dI)) (ci := 4) (v := Value.ref tes) (C := RX4) (T := TX4) (N := 8) hx hb hts inX4 hown hK hP 21 rfl rfl 4 (by decide) (hts _ (gw kw_45 rfl)) (fun _ h9 => h9) rfl dX11_fewest_40 ?_
          refine lv_iconst (v := 0) hx hb dX11_fewest_43 (by decide) ?_
          refine lv_iload_n hx hb dX11_fewest_44 rfl (lv_at hl 1 rfl) ?_
          have h_10 : vp_in 0 5 := by unfold vp_in; decide
          refine va_iast hx hb hK hP hD hS 26 0 rfl rfl h_10 dX11_fewest_45 (fun H locs hP hD hS => ?_)
          obtain ⟨f_11, e_f_11⟩ : ∃ y : Nat → Int32, y = upd tsc (0 : Int32).toNatClampNeg (nI cc) := ⟨_, rfl⟩
          have hpd9 : PDx (dC, dI) classes A H (wp [oX11 h0 xp xtp xn xt xk xl xc xo xto xr xch ts ik st, oX9 xtp tpo tpp tps tpa tpe tpb xt pk tpu tpw tpq tpt tunc tfwc, cA aC tpo 8 tfo, cA aC tpp 8 tfp, cA aC tps 8 tfs, cK aC pk 7 fk, cO k0 0 [], cO k1 1 [], cO k2 3 [], cO k3 5 [], cO k4 6 [], cO k5 10 [], cO k6 8 [], cI aC tpa 8 tyfc, cI aC tpe 8 teg0c, cI aC tpb 8 tbfc, cI aC tpu 7 tufc, cI aC tpw 7 tvfc, cI aC tpq 128 tqfc, cI aC tpt 128 ttfc, cI aC xr 7 rf, oX4 xt tek tef tew tep tes (nI n) (nI sn) dn, cI aC tek 8 u_4, cI aC tef 8 u_5, cI aC tew 8 u_6, cI aC tep 8 u_7, cI aC tes 5 f_11, oX4 xn ek ef ew ep es (nI n) (nI sn) dn, cI aC ek 8 kf, cI aC ef 8 ff, cI aC ew 8 wf, cI aC ep 8 pf, cI aC es 5 stf] (va_pl L (plE aC gc))) := by rw [e_f_11]; exact ⟨hP, hD⟩
          have hP := hpd9.1
          have hD := hpd9.2
          clear hpd9
          have hts9 : ∀ k, k < 5 → f_11 k = if k = 0 then nI cc else stf k := fun k hk => by
            rw [e_f_11, show ((0 : Int32)).toNatClampNeg = 0 from rfl]
            by_cases q : k = 0
            · subst q; rw [pk_us]; rfl
            · rw [pk_un q, if_neg q]; exact hsc k hk (by omega)
          have hev9 := EVS_co (EVS_cp hev hc9.1 hc9.2.1 hc9.2.2.1 (fun k hk => rfl)) (by omega) hts9
          refine lv_aload_n hx hb dX11_fewest_46 rfl (lv_at hl 0 rfl) ?_
          refine va_get (D := (dC, dI)) (ci := 11) (v := Value.ref xtp) (C := RX11) (T := TX11) (N := 14) hx hb hts inX11 hown hK hP 0 rfl rfl 1 (by decide) (hts _ (gw kw_227 rfl)) (fun _ h9 => h9) rfl dX11_fewest_47 ?_
          refine lv_aload_n hx hb dX11_fewest_50 rfl (lv_at hl 0 rfl) ?_
          refine va_get (D := (dC, dI)) (ci := 11) (v := Value.ref xn) (C := RX11) (T := TX11) (N := 14) hx hb hts inX11 hown hK hP 0 rfl rfl 2 (by decide) (hts _ (gw kw_228 rfl)) (fun _ h9 => h9) rfl dX11_fewest_51 ?_
          refine va_get (D := (dC, dI)) (ci := 4) (v := Value.int (nI sn)) (C := RX4) (T := TX4) (N := 8) hx hb hts inX4 hown hK hP 27 rfl rfl 6 (by decide) (hts _ (gw kw_52 rfl)) (fun _ h9 => h9) rfl dX11_fewest_54 ?_
          have hpd9 := pdf_P (cx := [oX9 xtp tpo tpp tps tpa tpe tpb xt pk tpu tpw tpq tpt tunc tfwc, oX4 xt tek tef tew tep tes (nI n) (nI sn) dn, cI aC tek 8 u_4, cI aC tef 8 u_5, cI aC tew 8 u_6, cI aC tes 5 f_11, cA aC tpo 8 tfo, cA aC tpp 8 tfp, cA aC tps 8 tfs, cK aC pk 7 fk, cO k0 0 [], cO k1 1 [], cO k2 3 [], cO k3 5 [], cO k4 6 [], cO k5 10 [], cO k6 8 [], cI aC tpa 8 tyfc, cI aC tpe 8 teg0c, cI aC tpb 8 tbfc, cI aC tpu 7 tufc, cI aC tpw 7 tvfc, cI aC tpq 128 tqfc, cI aC tpt 128 ttfc]) hP hD hS hA [1, 21, 22, 23, 24, 26, 2, 3, 4, 5, 6, 7, 8, 9, 10, 11, 12, 13, 14, 15, 16, 17, 18, 19] (by decide) rfl
          have hPc := hpd9.1
          have hDc := hpd9.2.1
          have hFc := hpd9.2.2
          clear hpd9
          refine va_callv (va_runV (As := [Value.int (nI sn)]) (rest := []) ⟨hx, hb, hml, hown, hts⟩ (c_X9_solve l dC dI aC H.size xtp tpo tpp tps tpa tpe tpb xt pk tpu tpw tpq tpt tunc tfwc tek tef tew tep tes n (nI sn) dn u_4 u_5 u_6 f_11 K F W0 ((coS S5 cc) 0) L gc tfo tfp tfs tro trp trs fk k0 k1 k2 k3 k4 k5 k6 (PO n K F W0 (coS S5 cc)) sn tufc tvfc tqfc ttfc tbfc tyfc teg0c (htg) (hev9.1) (hkd) (PO_cl hev9) (by omega)) ⟨(callB_of 1 hts (gG kw_357) rfl rfl rfl (hts _ (gw kw_11 rfl)) (hts _ (gw kw_354 rfl)) hd_X9_solve ⟨Nat.le_of_ble_eq_true rfl, Nat.le_of_ble_eq_true rfl⟩), (hts _ (gw kw_355 rfl)), (hts _ (gw kw_356 rfl))⟩ ⟨fb_std, va_recv (q := (RX9, TX9, 14)) hK hPc (ci := 9) (q0 := 0) rfl rfl, pre_std hPc hK hDc hN⟩ rfl rfl hl.1 rfl (lv_room (Nat.le_of_ble_eq_true rfl)) dX11_fewest_57 ⟨Nat.le_of_ble_eq_true rfl, Nat.le_of_ble_eq_true rfl⟩) hS (fun q _ h => hFc q h) hFc (fun u9 t9 H1 locs ht hvm hw_12 hB hz1 hk1 hS => ?_)
          obtain ⟨u_13, u_14, u_15, u_16, u_17, u_18, u_19, u_20, u_21, u_22⟩ := u9
          obtain ⟨hP1, hK1, hD1⟩ := hB
          rw [ht] at hP1
          clear hK1
          try dsimp only at hw_12
          have hpd9 : PDx (dC, dI) classes A H1 (wp [oX11 h0 xp xtp xn xt xk xl xc xo xto xr xch ts ik st, cI aC xr 7 rf, cI aC tep 8 u_7, oX4 xn ek ef ew ep es (nI n) (nI sn) dn, cI aC ek 8 kf, cI aC ef 8 ff, cI aC ew 8 wf, cI aC ep 8 pf, cI aC es 5 stf, oX9 xtp tpo tpp tps tpa tpe tpb xt pk tpu tpw tpq tpt u_13 u_14, oX4 xt tek tef tew tep tes (nI n) (nI sn) dn, cI aC tek 8 u_4, cI aC tef 8 u_5, cI aC tew 8 u_6, cI aC tes 5 f_11, cA aC tpo 8 tfo, cA aC tpp 8 tfp, cA aC tps 8 tfs, cK aC pk 7 fk, cO k0 0 [], cO k1 1 [], cO k2 3 [], cO k3 5 [], cO k4 6 [], cO k5 10 [], cO k6 8 [], cI aC tpa 8 u_20, cI aC tpe 8 u_21, cI aC tpb 8 u_19, cI aC tpu 7 u_15, cI aC tpw 7 u_16, cI aC tpq 128 u_17, cI aC tpt 128 u_18] (va_pl L (plE aC u_22))) := jn_P (wr := [oX11 h0 xp xtp xn xt xk xl xc xo xto xr xch ts ik st, cI aC xr 7 rf, cI aC tep 8 u_7, oX4 xn ek ef ew ep es (nI n) (nI sn) dn, cI aC ek 8 kf, cI aC ef 8 ff, cI aC ew 8 wf, cI aC ep 8 pf, cI aC es 5 stf]) hFc hk1 hP1 hD1 hP hD [1, 21, 22, 23, 24, 26, 2, 3, 4, 5, 6, 7, 8, 9, 10, 11, 12, 13, 14, 15, 16, 17, 18, 19] [0, 20, 25, 27, 28, 29, 30, 31, 32] rfl rfl (by decide) (by decide)
          have hP := hpd9.1
          have hD := hpd9.2
          clear hpd9
          generalize H1 = H at hP hS ⊢
          clear hPc hDc hFc hz1 hk1 hP1 hD1 ht hvm
          obtain ⟨ht1, ht2⟩ := hw_12
          refine lv_aload_n hx hb dX11_fewest_60 rfl (lv_at hl 0 rfl) ?_
          refine va_get (D := (dC, dI)) (ci := 11) (v := Value.ref xtp) (C := RX11) (T := TX11) (N := 14) hx hb hts inX11 hown hK hP 0 rfl rfl 1 (by decide) (hts _ (gw kw_227 rfl)) (fun _ h9 => h9) rfl dX11_fewest_61 ?_
          refine va_get (D := (dC, dI)) (ci := 9) (v := Value.ref tpe) (C := RX9) (T := TX9) (N := 14) hx hb hts inX9 hown hK hP 9 rfl rfl 4 (by decide) (hts _ (gw kw_159 rfl)) (fun _ h9 => h9) rfl dX11_fewest_64 ?_
          refine lv_aload_n hx hb dX11_fewest_67 rfl (lv_at hl 0 rfl) ?_
          refine va_get (D := (dC, dI)) (ci := 11) (v := Value.ref xn) (C := RX11) (T := TX11) (N := 14) hx hb hts inX11 hown hK hP 0 rfl rfl 2 (by decide) (hts _ (gw kw_228 rfl)) (fun _ h9 => h9) rfl dX11_fewest_68 ?_
          refine va_get (D := (dC, dI)) (ci := 4) (v := Value.int (nI sn)) (C := RX4) (T := TX4) (N := 8) hx hb hts inX4 hown hK hP 3 rfl rfl 6 (by decide) (hts _ (gw kw_52 rfl)) (fun _ h9 => h9) rfl dX11_fewest_71 ?_
          have h_23 : vp_in (nI sn) 8 := by first | exact vp_in_nI (by omega) (by omega) | (unfold vp_in; decide) | (subst_vars; first | (unfold vp_in; decide) | exact vp_in_nI (by omega) (by omega))
          refine va_iald hx hb hK hP 27 0 rfl rfl h_23 dX11_fewest_74 ?_
          refine lv_topi (fun x_24 e_24 => ?_)
          have hzz : x_24 = zE (PO n K F W0 (coS S5 cc)) sn := by rw [e_24, nI_clamp (by omega)]; exact (ht1 sn (Nat.le_refl _) hsn).2.2.2.2.1
          refine lv_aload_n hx hb dX11_fewest_75 rfl (lv_at hl 0 rfl) ?_
          refine va_get (D := (dC, dI)) (ci := 11) (v := Value.ref xn) (C := RX11) (T := TX11) (N := 14) hx hb hts inX11 hown hK hP 0 rfl rfl 2 (by decide) (hts _ (gw kw_228 rfl)) (fun _ h9 => h9) rfl dX11_fewest_76 ?_
          refine va_get (D := (dC, dI)) (ci := 4) (v := Value.int (nI sn)) (C := RX4) (T := TX4) (N := 8) hx hb hts inX4 hown hK hP 3 rfl rfl 6 (by decide) (hts _ (gw kw_52 rfl)) (fun _ h9 => h9) rfl dX11_fewest_79 ?_
          refine lv_icmp_ne (tgt := 87) hx hb dX11_fewest_82 (by decide) (fun c_25 => ?_) (fun c_25 => ?_)
          · have hof2 : ∀ a, OFF tro trp trs a → u_22 a = g a := fun a ha => (ht2 a ha).trans (hof a ha)
            have he9 : ¬ zE (PO n K F W0 (coS S5 cc)) sn = nI sn := fun q => c_25 (hzz.trans q)
            have hfw2 : few n sn K F W0 S5 0 100 = few n sn K F W0 S5 (cc + 1) (100 - (cc + 1)) := by rw [hfw, few_s hlt, if_neg he9]
            obtain ⟨x_26, e_26⟩ : ∃ y : Int32, y = (nI cc) + 1 := ⟨_, rfl⟩
            refine lv_iinc (v := x_26) (lv' := [(1, Value.int x_26), (0, Value.ref h0)]) hx hb dX11_fewest_87 hl (k := 1) rfl (by rw [e_26]; rfl) (by decide) rfl (fun ls hl => ?_)
            have h9 : x_26 = nI (cc + 1) := by rw [e_26, nI_1]
            subst h9
            refine lv_goto (tgt := 30) hx hb dX11_fewest_90 (by decide) ?_
            exact ih_30 (cc + 1) f_11 u_13 u_14 u_15 u_16 u_17 u_18 u_19 u_20 u_21 u_22 (by omega) (by omega) (fun k hk h0 => by rw [hts9 k hk, if_neg (by omega)]) (hof2) (hfw2) _ _ _ (plP hP [0, 9, 15, 16, 17, 18, 19, 20, 21, 22, 23, 24, 25, 26, 27, 28, 29, 30, 31, 32, 1, 10, 11, 12, 13, 2, 14, 3, 4, 5, 6, 7, 8] rfl) (plD hD [0, 9, 15, 16, 17, 18, 19, 20, 21, 22, 23, 24, 25, 26, 27, 28, 29, 30, 31, 32, 1, 10, 11, 12, 13, 2, 14, 3, 4, 5, 6, 7, 8] (by decide) rfl) hS (lv_sub hl [1, 0] rfl)
          · have hof2 : ∀ a, OFF tro trp trs a → u_22 a = g a := fun a ha => (ht2 a ha).trans (hof a ha)
            have he9 : zE (PO n K F W0 (coS S5 cc)) sn = nI sn := hzz.symm.trans c_25
            refine lv_iload_n hx hb dX11_fewest_85 rfl (lv_at hl 1 rfl) ?_
            have hpd9 := pd_P (cx := [oX11 h0 xp xtp xn xt xk xl xc xo xto xr xch ts ik st, oX4 xn ek ef ew ep es (nI n) (nI sn) dn, cI aC ek 8 kf, cI aC ef 8 ff, cI aC ew 8 wf, cI aC ep 8 pf, cI aC es 5 stf, oX4 xt tek tef tew tep tes (nI n) (nI sn) dn, cI aC tek 8 u_4, cI aC tef 8 u_5, cI aC tew 8 u_6, cI aC tep 8 u_7, cI aC tes 5 f_11, oX9 xtp tpo tpp tps tpa tpe tpb xt pk tpu tpw tpq tpt u_13 u_14, cA aC tpo 8 tfo, cA aC tpp 8 tfp, cA aC tps 8 tfs, cK aC pk 7 fk, cO k0 0 [], cO k1 1 [], cO k2 3 [], cO k3 5 [], cO k4 6 [], cO k5 10 [], cO k6 8 [], cI aC tpa 8 u_20, cI aC tpe 8 u_21, cI aC tpb 8 u_19, cI aC tpu 7 u_15, cI aC tpw 7 u_16, cI aC tpq 128 u_17, cI aC tpt 128 u_18, cI aC xr 7 rf]) hP hD [0, 3, 4, 5, 6, 7, 8, 10, 11, 12, 13, 2, 14, 9, 15, 16, 17, 18, 19, 20, 21, 22, 23, 24, 25, 26, 27, 28, 29, 30, 31, 32, 1] (by decide) rfl
            have hP9 := hpd9.1
            have hD9 := hpd9.2
            refine W.widen (k := 0) (n := 0) (by omega) (by omega) ?_
            exact W.iret (v := nI cc) hx hb hr (fun t ht hW => ⟨⟨(nI cc), ((nI n), (nI sn), dn, u_4, u_5, u_6, u_7, f_11, u_13, u_14, u_15, u_16, u_17, u_18, u_19, u_20, u_21, u_22, rf), rfl, ⟨hof2, by unfold rFew; rw [if_neg hov, hfw, few_s hlt, if_pos he9]⟩, by rw [ht]; exact hP9, va_K.moved hW.alike hK, hD9⟩, hS.F ht⟩) hS.2.2 dX11_fewest_86
    exact lp_30 ((100 - 0) + 1) 0 u_8 tun tfw tuf tvf tqf ttf tbf tyf teg0 g (Nat.lt_succ_self _) (by omega) (fun k hk _ => hc9.2.2.2.2 k hk) (fun a _ => rfl) (rfl) _ _ _ (plP hP [0, 1, 2, 3, 4, 5, 6, 7, 8, 9, 10, 11, 12, 13, 14, 15, 16, 17, 18, 19, 20, 21, 22, 23, 24, 25, 26, 27, 28, 29, 30, 31, 32] rfl) (plD hD [0, 1, 2, 3, 4, 5, 6, 7, 8, 9, 10, 11, 12, 13, 14, 15, 16, 17, 18, 19, 20, 21, 22, 23, 24, 25, 26, 27, 28, 29, 30, 31, 32] (by decide) rfl) hS (lv_sub hl [1, 0] rfl)
  · refine lv_aload_n hx hb dX11_fewest_10 rfl (lv_at hl 0 rfl) ?_
    refine lv_bipush (v := -3) hx hb dX11_fewest_11 (by decide) ?_
    have hpd9 := pdf_N (cx := [oX11 h0 xp xtp xn xt xk xl xc xo xto xr xch ts ik st, cI aC xr 7 rf]) hP hD hS hA [0, 31] (by decide) rfl
    have hPc := hpd9.1
    have hDc := hpd9.2.1
    have hFc := hpd9.2.2
    clear hpd9
    refine va_calli (va_runV (As := [Value.int (-3)]) (rest := []) ⟨hx, hb, hml, hown, hts⟩ (c_X11_refuse l dC dI aC H.size h0 xp xtp xn xt xk xl xc xo xto xr xch ts ik st (-3) 3 rf (by decide) (by decide) (by decide) (by unfold vp_in; decide)) ⟨(callB_of 1 hts (gG kw_276) rfl rfl rfl (hts _ (gw kw_1 rfl)) (hts _ (gw kw_273 rfl)) hd_X11_refuse ⟨Nat.le_of_ble_eq_true rfl, Nat.le_of_ble_eq_true rfl⟩), (hts _ (gw kw_275 rfl)), (hts _ (gw ks_0 rfl))⟩ ⟨fb_std, va_recv (q := (RX11, TX11, 14)) hK hPc (ci := 11) (q0 := 0) rfl rfl, pre_std hPc hK hDc hN⟩ rfl rfl hl.1 rfl (lv_room (Nat.le_of_ble_eq_true rfl)) dX11_fewest_13 ⟨Nat.le_of_ble_eq_true rfl, Nat.le_of_ble_eq_true rfl⟩) hS (fun q _ h => hFc q h) hFc (fun x_27 u9 t9 H1 locs ht hvm hw_27 hB hz1 hk1 hS => ?_)
    obtain ⟨u_28, rfl⟩ : ∃ z, z = u9 := ⟨_, rfl⟩
    obtain ⟨hP1, hK1, hD1⟩ := hB
    rw [ht] at hP1
    clear hK1
    try dsimp only at hw_27
    have hpd9 : PDx (dC, dI) classes A H1 (wp [cI aC ek 8 kf, cI aC ef 8 ff, cI aC ew 8 wf, cI aC ep 8 pf, cI aC es 5 stf, oX4 xt tek tef tew tep tes tsz tsy tdn, cI aC tek 8 tkf, cI aC tef 8 tff, cI aC tew 8 twf, cI aC tep 8 tpf, cI aC tes 5 tsf, oX9 xtp tpo tpp tps tpa tpe tpb xt pk tpu tpw tpq tpt tun tfw, cA aC tpo 8 tfo, cA aC tpp 8 tfp, cA aC tps 8 tfs, cK aC pk 7 fk, cO k0 0 [], cO k1 1 [], cO k2 3 [], cO k3 5 [], cO k4 6 [], cO k5 10 [], cO k6 8 [], cI aC tpa 8 tyf, cI aC tpe 8 teg0, cI aC tpb 8 tbf, cI aC tpu 7 tuf, cI aC tpw 7 tvf, cI aC tpq 128 tqf, cI aC tpt 128 ttf, oX4 xn ek ef ew ep es (nI n) (nI sn) dn, oX11 h0 xp xtp xn xt xk xl xc xo xto xr xch ts ik st, cI aC xr 7 u_28] (va_pl L (plE aC g))) := jn_Q (wr := [cI aC ek 8 kf, cI aC ef 8 ff, cI aC ew 8 wf, cI aC ep 8 pf, cI aC es 5 stf, oX4 xt tek tef tew tep tes tsz tsy tdn, cI aC tek 8 tkf, cI aC tef 8 tff, cI aC tew 8 twf, cI aC tep 8 tpf, cI aC tes 5 tsf, oX9 xtp tpo tpp tps tpa tpe tpb xt pk tpu tpw tpq tpt tun tfw, cA aC tpo 8 tfo, cA aC tpp 8 tfp, cA aC tps 8 tfs, cK aC pk 7 fk, cO k0 0 [], cO k1 1 [], cO k2 3 [], cO k3 5 [], cO k4 6 [], cO k5 10 [], cO k6 8 [], cI aC tpa 8 tyf, cI aC tpe 8 teg0, cI aC tpb 8 tbf, cI aC tpu 7 tuf, cI aC tpw 7 tvf, cI aC tpq 128 tqf, cI aC tpt 128 ttf, oX4 xn ek ef ew ep es (nI n) (nI sn) dn]) hFc hk1 hP1 hD1 hP hD [0, 31] [1, 2, 3, 4, 5, 6, 7, 8, 9, 10, 11, 12, 13, 14, 15, 16, 17, 18, 19, 20, 21, 22, 23, 24, 25, 26, 27, 28, 29, 30, 32] rfl rfl (by decide) (by decide)
    have hP := hpd9.1
    have hD := hpd9.2
    clear hpd9
    generalize H1 = H at hP hS ⊢
    clear hPc hDc hFc hz1 hk1 hP1 hD1 ht hvm
    obtain ⟨hv9, -⟩ := hw_27
    have hpd9 := pd_P (cx := [oX11 h0 xp xtp xn xt xk xl xc xo xto xr xch ts ik st, oX4 xn ek ef ew ep es (nI n) (nI sn) dn, cI aC ek 8 kf, cI aC ef 8 ff, cI aC ew 8 wf, cI aC ep 8 pf, cI aC es 5 stf, oX4 xt tek tef tew tep tes tsz tsy tdn, cI aC tek 8 tkf, cI aC tef 8 tff, cI aC tew 8 twf, cI aC tep 8 tpf, cI aC tes 5 tsf, oX9 xtp tpo tpp tps tpa tpe tpb xt pk tpu tpw tpq tpt tun tfw, cA aC tpo 8 tfo, cA aC tpp 8 tfp, cA aC tps 8 tfs, cK aC pk 7 fk, cO k0 0 [], cO k1 1 [], cO k2 3 [], cO k3 5 [], cO k4 6 [], cO k5 10 [], cO k6 8 [], cI aC tpa 8 tyf, cI aC tpe 8 teg0, cI aC tpb 8 tbf, cI aC tpu 7 tuf, cI aC tpw 7 tvf, cI aC tpq 128 tqf, cI aC tpt 128 ttf, cI aC xr 7 u_28]) hP hD [31, 30, 0, 1, 2, 3, 4, 5, 6, 7, 8, 9, 10, 11, 12, 13, 14, 15, 16, 17, 18, 19, 20, 21, 22, 23, 24, 25, 26, 27, 28, 29, 32] (by decide) rfl
    have hP9 := hpd9.1
    have hD9 := hpd9.2
    refine W.widen (k := 0) (n := 0) (by omega) (by omega) ?_
    exact W.iret (v := x_27) hx hb hr (fun t ht hW => ⟨⟨x_27, (tsz, tsy, tdn, tkf, tff, twf, tpf, tsf, tun, tfw, tuf, tvf, tqf, ttf, tbf, tyf, teg0, g, u_28), rfl, ⟨fun a _ => rfl, by rw [hv9]; unfold rFew; rw [if_pos (ovx_y hn8 hev.2.2.2.2 hz_4 c_2)]⟩, by rw [ht]; exact hP9, va_K.moved hW.alike hK, hD9⟩, hS.F ht⟩) hS.2.2 dX11_fewest_16

end

