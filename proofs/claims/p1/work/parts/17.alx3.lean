theorem cv_suc {Q : Nat → Nat} {a k v : Nat} : cv Q a (k + 1) v = cv Q a k v + (if Q (a + k) = v then 1 else 0) := by
  show cn _ a k + (if decide (Q (a + k) = v) = true then 1 else 0) = _
  by_cases h : Q (a + k) = v
  · rw [if_pos (decide_eq_true h), if_pos h]; rfl
  · rw [if_neg (by simpa using h), if_neg h]; rfl
theorem rk_cv {Q : Nat → Nat} {a k v : Nat} (h : Q (a + k) = v) : rk Q a (a + k) = cv Q a k v := by
  unfold rk cv
  rw [show a + k - a = k by omega, h]
theorem cv_mono {Q : Nat → Nat} {a v k l : Nat} (h : k ≤ l) : cv Q a k v ≤ cv Q a l v := by
  rw [show l = k + (l - k) by omega]
  exact cn_mono
theorem bl_eq {Q : Nat → Nat} {a k v u : Nat} {f g o : Nat → Int32} (hf : ∀ q, q < 60 → f q = if a ≤ q ∧ q < a + k ∧ Q q = v ∧ rk Q a q < u then nI v else o q) (hg : g = upd f (a + k) (nI v)) (he : Q (a + k) = v) (hu : cv Q a k v < u) :
    ∀ q, q < 60 → g q = if a ≤ q ∧ q < a + (k + 1) ∧ Q q = v ∧ rk Q a q < u then nI v else o q := by
  intro q hq
  rw [hg]
  by_cases e : q = a + k
  · subst e
    rw [pk_us, if_pos ⟨by omega, by omega, he, by rw [rk_cv he]; exact hu⟩]
  · rw [pk_un e, hf q hq]
    by_cases h : a ≤ q ∧ q < a + k ∧ Q q = v ∧ rk Q a q < u
    · rw [if_pos h, if_pos ⟨h.1, by omega, h.2.2⟩]
    · rw [if_neg h, if_neg (fun p => h ⟨p.1, by omega, p.2.2⟩)]
theorem bl_ne {Q : Nat → Nat} {a k v u : Nat} {f o : Nat → Int32} (hf : ∀ q, q < 60 → f q = if a ≤ q ∧ q < a + k ∧ Q q = v ∧ rk Q a q < u then nI v else o q) (he : ¬ Q (a + k) = v) :
    ∀ q, q < 60 → f q = if a ≤ q ∧ q < a + (k + 1) ∧ Q q = v ∧ rk Q a q < u then nI v else o q := by
  intro q hq
  rw [hf q hq]
  by_cases h : a ≤ q ∧ q < a + k ∧ Q q = v ∧ rk Q a q < u
  · rw [if_pos h, if_pos ⟨h.1, by omega, h.2.2⟩]
  · rw [if_neg h, if_neg (fun p => by
      by_cases e : q = a + k
      · subst e; exact he p.2.2.1
      · exact h ⟨p.1, by omega, p.2.2⟩)]
theorem bl_end {Q : Nat → Nat} {a y k v u : Nat} {f o : Nat → Int32} (hf : ∀ q, q < 60 → f q = if a ≤ q ∧ q < a + k ∧ Q q = v ∧ rk Q a q < u then nI v else o q) (hk : k ≤ y) (hx : k = y ∨ u ≤ cv Q a k v) :
    min (cv Q a k v) u = min (cv Q a y v) u ∧ ∀ q, q < 60 → f q = if a ≤ q ∧ q < a + y ∧ Q q = v ∧ rk Q a q < u then nI v else o q := by
  rcases hx with rfl | hx
  · exact ⟨rfl, hf⟩
  · have h1 := cv_mono (Q := Q) (a := a) (v := v) hk
    refine ⟨by omega, fun q hq => ?_⟩
    rw [hf q hq]
    by_cases h : a ≤ q ∧ q < a + k ∧ Q q = v ∧ rk Q a q < u
    · rw [if_pos h, if_pos ⟨h.1, by omega, h.2.2⟩]
    · rw [if_neg h, if_neg (fun p => by
        by_cases e : q < a + k
        · exact h ⟨p.1, e, p.2.2⟩
        · have h2 : cv Q a k v ≤ rk Q a q := by
            unfold rk
            rw [p.2.2.1]
            exact cv_mono (Q := Q) (a := a) (v := v) (k := k) (l := q - a) (by omega)
          have := p.2.2.2
          omega)]
/-- a next level is there -/
theorem lv_ex {Q : Nat → Nat} {a y m v : Nat} (h1 : m ≤ cu Q a y 100) (h2 : cu Q a y v < m) : ∃ q, a ≤ q ∧ q < a + y ∧ v < Q q := by
  have key : ∀ d, cu Q a y (v + d) = cu Q a y v ∨ ∃ q, a ≤ q ∧ q < a + y ∧ v < Q q := by
    intro d
    induction d with
    | zero => exact Or.inl rfl
    | succ d ih =>
      rcases ih with ih | ih
      · rcases Nat.eq_zero_or_pos (cv Q a y (v + d + 1)) with q | q
        · left
          show cu Q a y (v + d) + cv Q a y (v + d + 1) = _
          rw [ih, q]
          rfl
        · obtain ⟨j, q1, q2, q3⟩ := cn_ex q
          have q4 : Q j = v + d + 1 := by simpa using q3
          exact Or.inr ⟨j, q1, q2, by omega⟩
      · exact Or.inr ih
  by_cases hv : v ≤ 100
  · rcases key (100 - v) with q | q
    · rw [show v + (100 - v) = 100 by omega] at q
      omega
    · exact q
  · have := cu_mono (Q := Q) (a := a) (y := y) (v := 100) (d := v - 100)
    rw [show 100 + (v - 100) = v by omega] at this
    omega
/-- the step from a level to the next one that is there -/
theorem by_step {Q : Nat → Nat} {a y m v w : Nat} (hvw : v < w) (hg : ∀ j, a ≤ j → j < a + y → v < Q j → w ≤ Q j) : cu Q a y w = cu Q a y v + cv Q a y w ∧ co Q a y m w = co Q a y m v + w * min (cv Q a y w) (m - cu Q a y v) ∧ ∀ u, v ≤ u → u < w → cu Q a y u = cu Q a y v ∧ co Q a y m u = co Q a y m v := by
  have hgap : ∀ u, v ≤ u → u < w → cu Q a y u = cu Q a y v ∧ co Q a y m u = co Q a y m v := fun u h1 h2 => by
    have := gap (Q := Q) (a := a) (y := y) (m := m) (v := v) (d := u - v) (fun j q1 q2 q3 => by have := hg j q1 q2 q3; omega)
    rw [show v + (u - v) = u by omega] at this
    exact this
  obtain ⟨x, hx⟩ : ∃ x, w = x + 1 := ⟨w - 1, by omega⟩
  subst hx
  obtain ⟨h1, h2⟩ := hgap x (by omega) (by omega)
  refine ⟨?_, ?_, hgap⟩
  · show cu Q a y x + cv Q a y (x + 1) = _
    rw [h1]
  · show co Q a y m x + (x + 1) * min (cv Q a y (x + 1)) (m - cu Q a y x) = _
    rw [h1, h2]
theorem OF_0 {Q : Nat → Nat} {a y m j : Nat} : OF Q a y m 0 j = 0 := by
  unfold OF
  rw [if_neg (fun q => by omega)]
theorem min_nI {x y : Nat} (hx : x < 2 ^ 31) (hy : y < 2 ^ 31) : (if nI y < nI x then nI y else nI x) = nI (min x y) := by
  by_cases h : y < x
  · rw [if_pos (nI_lt h hx), Nat.min_eq_right (by omega)]
  · rw [if_neg (fun q => h ((nI_ltI hy hx).mp q)), Nat.min_eq_left (by omega)]
theorem cv_le {Q : Nat → Nat} {a y v : Nat} : cv Q a y v ≤ y := cn_le
theorem mul_le_60 {w t : Nat} (hw : w ≤ 1000) (ht : t ≤ 60) : w * t ≤ 60000 := by
  have := Nat.mul_le_mul hw ht
  omega
theorem ms_lt {n j fu : Nat} (h : j < n) (hf : n - j < fu + 1) : n - (j + 1) < fu := by omega

set_option maxHeartbeats 4000000 in
set_option maxRecDepth 100000 in
/-- X2_nextLevel -/
theorem c_X2_nextLevel (l : Launch) (dC : Nat → ClassId) (dI : Nat → Nat → Nat) (aC : Nat → ClassId) (sz : Nat) (h1 : Nat) (cs : Nat) (ca : Nat) (cf : Nat) (cl : Nat) (n : Nat) (i : Nat) (cx : Int32) (Q : Nat → Nat) (af : Nat → Int32) (v : Nat) (hn : i < n ∧ n ≤ 60) (hQ : ∀ j, i < j → j < n → af j = nI (Q j) ∧ Q j ≤ 100) (hv : v ≤ 100) (hex : ∃ q, i < q ∧ q < n ∧ v < Q q) : Met l yX2_nextLevel (wW yX2_nextLevel cX2_nextLevel 5 (some .int)) ({ frames := 1, cells := 0, slots := 0, locals := 13 } : Room) (va_Pc [.ref h1, .int (nI i), .int (nI v)] (fun U => U.heap.size = sz ∧ va_P (dC, dI) classes [(h1, .inr (2, [.ref cs, .ref ca, .ref cf, .ref cl, .int (nI n), .int cx])), (ca, .inl (aC 0, 60, .inl af))] U.heap ∧ va_K (dC, dI) classes (TY aC) U ∧ va_D (fun _ => True) [(h1, .inr (2, [.ref cs, .ref ca, .ref cf, .ref cl, .int (nI n), .int cx])), (ca, .inl (aC 0, 60, .inl af))] ∧ NX U)) (va_Qi (fun (r : Int32) (w : Nat) => r = nI w ∧ v < w ∧ w ≤ 100 ∧ (∃ q, i < q ∧ q < n ∧ Q q = w) ∧ ∀ q, i < q → q < n → v < Q q → w ≤ Q q) (fun (w : Nat) (t : State) => va_P (dC, dI) classes [(h1, .inr (2, [.ref cs, .ref ca, .ref cf, .ref cl, .int (nI n), .int cx])), (ca, .inl (aC 0, 60, .inl af))] t.heap ∧ va_K (dC, dI) classes (TY aC) t ∧ va_D (va_A [(h1, .inr (2, [.ref cs, .ref ca, .ref cf, .ref cl, .int (nI n), .int cx])), (ca, .inl (aC 0, 60, .inl af))] sz) [(h1, .inr (2, [.ref cs, .ref ca, .ref cf, .ref cl, .int (nI n), .int cx])), (ca, .inl (aC 0, 60, .inl af))]) (va_A [(h1, .inr (2, [.ref cs, .ref ca, .ref cf, .ref cl, .int (nI n), .int cx])), (ca, .inl (aC 0, 60, .inl af))] sz)) 0 0 (va_A [(h1, .inr (2, [.ref cs, .ref ca, .ref cf, .ref cl, .int (nI n), .int cx])), (ca, .inl (aC 0, 60, .inl af))] sz) := by
  refine Met.ofW (cc := cX2_nextLevel) (maxL := 5) (ret := (some .int)) (by decide) rfl ?_
  intro p e s m args below meth c s₁ B hml hv
  obtain ⟨rfl, hsz, hP, hK, hD0, hN⟩ := hv
  have hx := B.exec
  have hb := B.bytes
  have hr := B.returns
  have hts0 := atoms_spec (ws := (wW yX2_nextLevel cX2_nextLevel 5 (some .int))) B.pre
  have hts : ∀ w9 ∈ lw_G, w9.before ([.ref h1, .int (nI i), .int (nI v)] : List Value).toArray s = true := fun w9 h9 => hts0 w9 (List.mem_cons_of_mem _ h9)
  have hown : s.vm.findClass RX2 = some m.cls := findClass_of_methodNamed B.named
  have hlocks := B.notSynchronized
  subst hsz
  have hD := hD0.self (sz := s.heap.size)
  generalize hAe : va_A [(h1, .inr (2, [.ref cs, .ref ca, .ref cf, .ref cl, .int (nI n), .int cx])), (ca, .inl (aC 0, 60, .inl af))] s.heap.size = A at hD ⊢
  have hA : ∀ q : Nat, s.heap.size ≤ q → A q := fun q h => by rw [← hAe]; exact Or.inr h
  obtain ⟨H, hHe⟩ : ∃ H : Heap, H = s.heap := ⟨_, rfl⟩
  have hS : va_S A s.heap H [] := by rw [hHe]; exact va_S.rf
  have hP : va_P (dC, dI) classes [(h1, .inr (2, [.ref cs, .ref ca, .ref cf, .ref cl, .int (nI n), .int cx])), (ca, .inl (aC 0, 60, .inl af))] H := by rw [hHe]; exact hP
  have hl := lv_entry ([.ref h1, .int (nI i), .int (nI v)]) (n := 5) (Nat.le_of_ble_eq_true rfl)
  rw [lg_entry_eq]
  generalize (lg_sl ([.ref h1, .int (nI i), .int (nI v)]) ++ List.replicate (5 - (lg_sl ([.ref h1, .int (nI i), .int (nI v)])).length) Slot.unset).toArray = ls at hl ⊢
  have hl : lv_has ls 5 [(0, .ref h1), (1, .int (nI i)), (2, .int (nI v))] := hl
  rw [← hHe]
  refine lv_sipush (v := 1000) hx hb dX2_nextLevel_0 (by decide) ?_
  refine lv_istore_n (lv' := [(3, .int 1000), (0, .ref h1), (1, .int (nI i)), (2, .int (nI v))]) hx hb dX2_nextLevel_3 rfl hl (by decide) rfl (fun ls hl => ?_)
  refine lv_iload_n hx hb dX2_nextLevel_4 rfl (lv_at hl 2 rfl) ?_
  refine lv_iconst (v := 1) hx hb dX2_nextLevel_5 (by decide) ?_
  refine lv_iadd hx hb dX2_nextLevel_6 ?_
  refine lv_topi (fun x_1 e_1 => ?_)
  refine lv_istore (lv' := [(4, .int x_1), (3, .int 1000), (0, .ref h1), (1, .int (nI i)), (2, .int (nI v))]) hx hb dX2_nextLevel_7 hl (by decide) rfl (fun ls hl => ?_)
  have h9 : x_1 = nI (i + 1) := by rw [e_1, nI_1]
  subst h9
  have lp_9 : ∀ (fu : Nat) (j : Nat) (x : Nat) (hfu : n - j < fu) (hj : i < j ∧ j ≤ n) (hx1 : x ≤ 1000) (hx2 : ∀ q, i < q → q < j → v < Q q → x ≤ Q q) (hx3 : x = 1000 ∨ (v < x ∧ ∃ q, i < q ∧ q < j ∧ Q q = x)) (H : Heap) (locs : List Loc) (ls : Array Slot), va_P (dC, dI) classes [(h1, .inr (2, [.ref cs, .ref ca, .ref cf, .ref cl, .int (nI n), .int cx])), (ca, .inl (aC 0, 60, .inl af))] H → va_D A [(h1, .inr (2, [.ref cs, .ref ca, .ref cf, .ref cl, .int (nI n), .int cx])), (ca, .inl (aC 0, 60, .inl af))] → va_S A s.heap H locs → lv_has ls 5 [(0, .ref h1), (1, .int (nI i)), (2, .int (nI v)), (3, .int (nI x)), (4, .int (nI j))] → W p l e (headSpec (wW yX2_nextLevel cX2_nextLevel 5 (some .int)) ({ frames := 1, cells := 0, slots := 0, locals := 13 } : Room)).room s m ([.ref h1, .int (nI i), .int (nI v)] : List Value).toArray below meth c H locs 0 0 (MQ below (va_Qi (fun (r : Int32) (w : Nat) => r = nI w ∧ v < w ∧ w ≤ 100 ∧ (∃ q, i < q ∧ q < n ∧ Q q = w) ∧ ∀ q, i < q → q < n → v < Q q → w ≤ Q q) (fun (w : Nat) (t : State) => va_P (dC, dI) classes [(h1, .inr (2, [.ref cs, .ref ca, .ref cf, .ref cl, .int (nI n), .int cx])), (ca, .inl (aC 0, 60, .inl af))] t.heap ∧ va_K (dC, dI) classes (TY aC) t ∧ va_D A [(h1, .inr (2, [.ref cs, .ref ca, .ref cf, .ref cl, .int (nI n), .int cx])), (ca, .inl (aC 0, 60, .inl af))]) A) ([.ref h1, .int (nI i), .int (nI v)] : List Value).toArray s 0 0 A) (F0 m 9 ls []) := by
    intro fu
    induction fu with
    | zero => intro j x hfu; exact absurd hfu (Nat.not_lt_zero _)
    | succ fu ih_9 =>
      intro j x hfu hj hx1 hx2 hx3 H locs ls hP hD hS hl
      refine lv_iload hx hb dX2_nextLevel_9 (lv_at hl 4 rfl) ?_
      refine lv_aload_n hx hb dX2_nextLevel_11 rfl (lv_at hl 0 rfl) ?_
      refine va_get (D := (dC, dI)) (ci := 2) (v := .int (nI n)) (C := RX2) (T := TX2) (N := 6) hx hb hts inX2 hown hK hP 0 rfl rfl 4 (by decide) (hts _ (gw kw_211 rfl)) (fun _ h9 => h9) rfl dX2_nextLevel_12 ?_
      refine lv_icmp_ge (tgt := 47) hx hb dX2_nextLevel_15 (by decide) (fun c_2 => ?_) (fun c_2 => ?_)
      · have hjn : j = n := by
          rcases Nat.lt_or_ge j n with q | q
          · exact absurd c_2 (nI_ge q (by omega))
          · omega
        obtain ⟨q0, hq1, hq2, hq3⟩ := hex
        have hq4 := hx2 q0 hq1 (by omega) hq3
        have hq5 := (hQ q0 hq1 hq2).2
        refine lv_iload_n hx hb dX2_nextLevel_47 rfl (lv_at hl 3 rfl) ?_
        have hP9 := hP.sub (ws' := [(h1, .inr (2, [.ref cs, .ref ca, .ref cf, .ref cl, .int (nI n), .int cx])), (ca, .inl (aC 0, 60, .inl af))]) [0, 1] rfl
        have hD9 := hD.sub (ws' := [(h1, .inr (2, [.ref cs, .ref ca, .ref cf, .ref cl, .int (nI n), .int cx])), (ca, .inl (aC 0, 60, .inl af))]) [0, 1] (by decide) rfl
        refine W.widen (k := 0) (n := 0) (by omega) (by omega) ?_
        exact W.iret (v := nI x) hx hb hr (fun t ht hW => ⟨⟨(nI x), (x), rfl, by rcases hx3 with h | ⟨h1, q, h2, h3, h4⟩ <;> first | (exfalso; omega) | exact ⟨rfl, h1, by omega, ⟨q, h2, by omega, h4⟩, fun q h1 h2 => hx2 q h1 (by omega)⟩, by rw [ht]; exact hP9, va_K.moved hW.alike hK, hD9⟩, hS.F ht⟩) hS.2.2 dX2_nextLevel_48
      · have hlt : j < n := by
          rcases Nat.lt_or_ge j n with q | q
          · exact q
          · exact absurd (nI_le q (by omega)) c_2
        obtain ⟨hq1, hq2⟩ := hQ j hj.1 hlt
        refine lv_aload_n hx hb dX2_nextLevel_18 rfl (lv_at hl 0 rfl) ?_
        refine va_get (D := (dC, dI)) (ci := 2) (v := .ref ca) (C := RX2) (T := TX2) (N := 6) hx hb hts inX2 hown hK hP 0 rfl rfl 1 (by decide) (hts _ (gw kw_208 rfl)) (fun _ h9 => h9) rfl dX2_nextLevel_19 ?_
        refine lv_iload hx hb dX2_nextLevel_22 (lv_at hl 4 rfl) ?_
        have h_3 : vp_in (nI j) 60 := vp_in_nI (by omega) (by omega)
        refine va_iald hx hb hK hP 1 0 rfl rfl h_3 dX2_nextLevel_24 ?_
        refine lv_topi (fun x_4 e_4 => ?_)
        have h9 : x_4 = nI (Q j) := by rw [e_4, nI_clamp (by omega)]; exact hq1
        subst h9
        refine lv_iload_n hx hb dX2_nextLevel_25 rfl (lv_at hl 2 rfl) ?_
        refine lv_icmp_le (tgt := 41) hx hb dX2_nextLevel_26 (by decide) (fun c_5 => ?_) (fun c_5 => ?_)
        · have hvq : Q j ≤ v := (nI_leI (by omega) (by omega)).mp c_5
          have hb2 : ∀ q, i < q → q < j + 1 → v < Q q → x ≤ Q q := fun q h1 h2 h3 => by
            by_cases e : q = j
            · subst e; omega
            · exact hx2 q h1 (by omega) h3
          have hb3 : x = 1000 ∨ (v < x ∧ ∃ q, i < q ∧ q < j + 1 ∧ Q q = x) := hx3.imp id (fun ⟨h1, q, h2, h3, h4⟩ => ⟨h1, q, h2, by omega, h4⟩)
          obtain ⟨x_6, e_6⟩ : ∃ y : Int32, y = (nI j) + 1 := ⟨_, rfl⟩
          refine lv_iinc (v := x_6) (lv' := [(4, .int x_6), (0, .ref h1), (1, .int (nI i)), (2, .int (nI v)), (3, .int (nI x))]) hx hb dX2_nextLevel_41 hl (k := 4) rfl (by rw [e_6]; rfl) (by decide) rfl (fun ls hl => ?_)
          have h9 : x_6 = nI (j + 1) := by rw [e_6, nI_1]
          subst h9
          refine lv_goto (tgt := 9) hx hb dX2_nextLevel_44 (by decide) ?_
          exact ih_9 (j + 1) x (ms_lt hlt hfu) (by omega) (by omega) (hb2) (hb3) _ _ _ (hP.sub [0, 1] rfl) (hD.sub [0, 1] (by decide) rfl) hS (lv_sub hl [1, 2, 3, 4, 0] rfl)
        · refine lv_iload_n hx hb dX2_nextLevel_29 rfl (lv_at hl 3 rfl) ?_
          refine lv_aload_n hx hb dX2_nextLevel_30 rfl (lv_at hl 0 rfl) ?_
          refine va_get (D := (dC, dI)) (ci := 2) (v := .ref ca) (C := RX2) (T := TX2) (N := 6) hx hb hts inX2 hown hK hP 0 rfl rfl 1 (by decide) (hts _ (gw kw_208 rfl)) (fun _ h9 => h9) rfl dX2_nextLevel_31 ?_
          refine lv_iload hx hb dX2_nextLevel_34 (lv_at hl 4 rfl) ?_
          have h_7 : vp_in (nI j) 60 := vp_in_nI (by omega) (by omega)
          refine va_iald hx hb hK hP 1 0 rfl rfl h_7 dX2_nextLevel_36 ?_
          refine lv_topi (fun x_8 e_8 => ?_)
          have h9 : x_8 = nI (Q j) := by rw [e_8, nI_clamp (by omega)]; exact hq1
          subst h9
          refine va_mmin hx hb (by rw [hml]; exact hl.1.symm) hown (hts _ (gw kw_565 rfl)) (hts _ (gw kw_566 rfl)) (hts _ (gw kw_14 rfl)) (hts _ (gw kw_567 rfl)) (Nat.le_of_ble_eq_true rfl) (Nat.le_of_ble_eq_true rfl) (Nat.zero_le _) (Nat.zero_le _) dX2_nextLevel_37 ?_
          refine lv_topi (fun x_9 e_9 => ?_)
          have h9 : x_9 = nI (min x (Q j)) := by rw [e_9]; exact min_nI (by omega) (by omega)
          subst h9
          refine lv_istore_n (lv' := [(3, .int (nI (min x (Q j)))), (0, .ref h1), (1, .int (nI i)), (2, .int (nI v)), (4, .int (nI j))]) hx hb dX2_nextLevel_40 rfl hl (by decide) rfl (fun ls hl => ?_)
          have hvq : v < Q j := by
            rcases Nat.lt_or_ge v (Q j) with q | q
            · exact q
            · exact absurd ((nI_leI (by omega) (by omega)).mpr q) c_5
          have hb2 : ∀ q, i < q → q < j + 1 → v < Q q → min x (Q j) ≤ Q q := fun q h1 h2 h3 => by
            by_cases e : q = j
            · subst e; omega
            · have := hx2 q h1 (by omega) h3; omega
          have hb3 : min x (Q j) = 1000 ∨ (v < min x (Q j) ∧ ∃ q, i < q ∧ q < j + 1 ∧ Q q = min x (Q j)) := by
            by_cases e : Q j ≤ x
            · exact Or.inr ⟨by omega, j, hj.1, by omega, by omega⟩
            · rcases hx3 with h | ⟨h1, q, h2, h3, h4⟩
              · omega
              · exact Or.inr ⟨by omega, q, h2, by omega, by omega⟩
          obtain ⟨x_10, e_10⟩ : ∃ y : Int32, y = (nI j) + 1 := ⟨_, rfl⟩
          refine lv_iinc (v := x_10) (lv' := [(4, .int x_10), (3, .int (nI (min x (Q j)))), (0, .ref h1), (1, .int (nI i)), (2, .int (nI v))]) hx hb dX2_nextLevel_41 hl (k := 4) rfl (by rw [e_10]; rfl) (by decide) rfl (fun ls hl => ?_)
          have h9 : x_10 = nI (j + 1) := by rw [e_10, nI_1]
          subst h9
          refine lv_goto (tgt := 9) hx hb dX2_nextLevel_44 (by decide) ?_
          exact ih_9 (j + 1) (min x (Q j)) (ms_lt hlt hfu) (by omega) (by omega) (hb2) (hb3) _ _ _ (hP.sub [0, 1] rfl) (hD.sub [0, 1] (by decide) rfl) hS (lv_sub hl [2, 3, 4, 1, 0] rfl)
  exact lp_9 ((n - (i + 1)) + 1) (i + 1) 1000 (Nat.lt_succ_self _) (by omega) (by omega) (fun q h1 h2 => by omega) (Or.inl rfl) _ _ _ (hP.sub [0, 1] rfl) (hD.sub [0, 1] (by decide) rfl) hS (lv_sub hl [2, 3, 4, 1, 0] rfl)

set_option maxHeartbeats 4000000 in
set_option maxRecDepth 100000 in
/-- X2_buyAtLevel -/
theorem c_X2_buyAtLevel (l : Launch) (dC : Nat → ClassId) (dI : Nat → Nat → Nat) (aC : Nat → ClassId) (sz : Nat) (h1 : Nat) (cs : Nat) (ca : Nat) (cf : Nat) (cl : Nat) (n : Nat) (i : Nat) (cx : Int32) (Q : Nat → Nat) (af : Nat → Int32) (v : Nat) (u : Nat) (fst : Int32) (of : Nat → Int32) (hn : i < n ∧ n ≤ 60) (hQ : ∀ j, i < j → j < n → af j = nI (Q j) ∧ Q j ≤ 100) (hv : v ≤ 100) (hu : u ≤ 60) (hf : fst = 0) : Met l yX2_buyAtLevel (wW yX2_buyAtLevel cX2_buyAtLevel 9 (some .int)) ({ frames := 0, cells := 0, slots := 0, locals := 0 } : Room) (va_Pc [.ref h1, .int (nI i), .int (nI v), .int (nI u), .int fst] (fun U => U.heap.size = sz ∧ va_P (dC, dI) classes [(h1, .inr (2, [.ref cs, .ref ca, .ref cf, .ref cl, .int (nI n), .int cx])), (ca, .inl (aC 0, 60, .inl af)), (cf, .inl (aC 0, 60, .inl of))] U.heap ∧ va_K (dC, dI) classes (TY aC) U ∧ va_D (fun _ => True) [(h1, .inr (2, [.ref cs, .ref ca, .ref cf, .ref cl, .int (nI n), .int cx])), (ca, .inl (aC 0, 60, .inl af)), (cf, .inl (aC 0, 60, .inl of))] ∧ NX U)) (va_Qi (fun (r : Int32) (og : Nat → Int32) => r = nI (min (cv Q (i + 1) (n - 1 - i) v) u) ∧ ∀ q, q < 60 → og q = if i + 1 ≤ q ∧ q < i + 1 + (n - 1 - i) ∧ Q q = v ∧ rk Q (i + 1) q < u then nI v else of q) (fun (og : Nat → Int32) (t : State) => va_P (dC, dI) classes [(h1, .inr (2, [.ref cs, .ref ca, .ref cf, .ref cl, .int (nI n), .int cx])), (ca, .inl (aC 0, 60, .inl af)), (cf, .inl (aC 0, 60, .inl og))] t.heap ∧ va_K (dC, dI) classes (TY aC) t ∧ va_D (va_A [(h1, .inr (2, [.ref cs, .ref ca, .ref cf, .ref cl, .int (nI n), .int cx])), (ca, .inl (aC 0, 60, .inl af)), (cf, .inl (aC 0, 60, .inl of))] sz) [(h1, .inr (2, [.ref cs, .ref ca, .ref cf, .ref cl, .int (nI n), .int cx])), (ca, .inl (aC 0, 60, .inl af)), (cf, .inl (aC 0, 60, .inl og))]) (va_A [(h1, .inr (2, [.ref cs, .ref ca, .ref cf, .ref cl, .int (nI n), .int cx])), (ca, .inl (aC 0, 60, .inl af)), (cf, .inl (aC 0, 60, .inl of))] sz)) 0 0 (va_A [(h1, .inr (2, [.ref cs, .ref ca, .ref cf, .ref cl, .int (nI n), .int cx])), (ca, .inl (aC 0, 60, .inl af)), (cf, .inl (aC 0, 60, .inl of))] sz) := by
  refine Met.ofW (cc := cX2_buyAtLevel) (maxL := 9) (ret := (some .int)) (by decide) rfl ?_
  intro p e s m args below meth c s₁ B hml hv
  obtain ⟨rfl, hsz, hP, hK, hD0, hN⟩ := hv
  have hx := B.exec
  have hb := B.bytes
  have hr := B.returns
  have hts0 := atoms_spec (ws := (wW yX2_buyAtLevel cX2_buyAtLevel 9 (some .int))) B.pre
  have hts : ∀ w9 ∈ lw_G, w9.before ([.ref h1, .int (nI i), .int (nI v), .int (nI u), .int fst] : List Value).toArray s = true := fun w9 h9 => hts0 w9 (List.mem_cons_of_mem _ h9)
  have hown : s.vm.findClass RX2 = some m.cls := findClass_of_methodNamed B.named
  have hlocks := B.notSynchronized
  subst hsz
  have hD := hD0.self (sz := s.heap.size)
  generalize hAe : va_A [(h1, .inr (2, [.ref cs, .ref ca, .ref cf, .ref cl, .int (nI n), .int cx])), (ca, .inl (aC 0, 60, .inl af)), (cf, .inl (aC 0, 60, .inl of))] s.heap.size = A at hD ⊢
  have hA : ∀ q : Nat, s.heap.size ≤ q → A q := fun q h => by rw [← hAe]; exact Or.inr h
  obtain ⟨H, hHe⟩ : ∃ H : Heap, H = s.heap := ⟨_, rfl⟩
  have hS : va_S A s.heap H [] := by rw [hHe]; exact va_S.rf
  have hP : va_P (dC, dI) classes [(h1, .inr (2, [.ref cs, .ref ca, .ref cf, .ref cl, .int (nI n), .int cx])), (ca, .inl (aC 0, 60, .inl af)), (cf, .inl (aC 0, 60, .inl of))] H := by rw [hHe]; exact hP
  have hl := lv_entry ([.ref h1, .int (nI i), .int (nI v), .int (nI u), .int fst]) (n := 9) (Nat.le_of_ble_eq_true rfl)
  rw [lg_entry_eq]
  generalize (lg_sl ([.ref h1, .int (nI i), .int (nI v), .int (nI u), .int fst]) ++ List.replicate (9 - (lg_sl ([.ref h1, .int (nI i), .int (nI v), .int (nI u), .int fst])).length) Slot.unset).toArray = ls at hl ⊢
  have hl : lv_has ls 9 [(0, .ref h1), (1, .int (nI i)), (2, .int (nI v)), (3, .int (nI u)), (4, .int fst)] := hl
  rw [← hHe]
  refine lv_iconst (v := 0) hx hb dX2_buyAtLevel_0 (by decide) ?_
  refine lv_topi (fun x_1 e_1 => ?_)
  have h9 : x_1 = nI (min (cv Q (i + 1) 0 v) u) := by rw [e_1, show cv Q (i + 1) 0 v = 0 from rfl, Nat.zero_min]; rfl
  subst h9
  refine lv_istore (lv' := [(5, .int (nI (min (cv Q (i + 1) 0 v) u))), (0, .ref h1), (1, .int (nI i)), (2, .int (nI v)), (3, .int (nI u)), (4, .int fst)]) hx hb dX2_buyAtLevel_1 hl (by decide) rfl (fun ls hl => ?_)
  refine lv_aload_n hx hb dX2_buyAtLevel_3 rfl (lv_at hl 1 rfl) ?_
  refine va_get (D := (dC, dI)) (ci := 2) (v := .int (nI n)) (C := RX2) (T := TX2) (N := 6) hx hb hts inX2 hown hK hP 0 rfl rfl 4 (by decide) (hts _ (gw kw_211 rfl)) (fun _ h9 => h9) rfl dX2_buyAtLevel_4 ?_
  refine lv_iconst (v := 1) hx hb dX2_buyAtLevel_7 (by decide) ?_
  refine lv_isub hx hb dX2_buyAtLevel_8 ?_
  refine lv_topi (fun x_2 e_2 => ?_)
  have h9 : x_2 = nI (n - 1) := by rw [e_2]; exact pk_sub (a := n) (b := 1) (by omega)
  subst h9
  refine lv_iload_n hx hb dX2_buyAtLevel_9 rfl (lv_at hl 2 rfl) ?_
  refine lv_isub hx hb dX2_buyAtLevel_10 ?_
  refine lv_topi (fun x_3 e_3 => ?_)
  have h9 : x_3 = nI (n - 1 - i) := by rw [e_3]; exact pk_sub (by omega)
  subst h9
  refine lv_istore (lv' := [(6, .int (nI (n - 1 - i))), (5, .int (nI (min (cv Q (i + 1) 0 v) u))), (0, .ref h1), (1, .int (nI i)), (2, .int (nI v)), (3, .int (nI u)), (4, .int fst)]) hx hb dX2_buyAtLevel_11 hl (by decide) rfl (fun ls hl => ?_)
  refine lv_iconst (v := 0) hx hb dX2_buyAtLevel_13 (by decide) ?_
  refine lv_istore (lv' := [(7, .int 0), (6, .int (nI (n - 1 - i))), (5, .int (nI (min (cv Q (i + 1) 0 v) u))), (0, .ref h1), (1, .int (nI i)), (2, .int (nI v)), (3, .int (nI u)), (4, .int fst)]) hx hb dX2_buyAtLevel_14 hl (by decide) rfl (fun ls hl => ?_)
  have lp_16 : ∀ (fu : Nat) (k : Nat) (fc : Nat → Int32) (hfu : n - 1 - i - k < fu) (hk : k ≤ n - 1 - i) (hfc : ∀ q, q < 60 → fc q = if i + 1 ≤ q ∧ q < i + 1 + k ∧ Q q = v ∧ rk Q (i + 1) q < u then nI v else of q) (H : Heap) (locs : List Loc) (ls : Array Slot), va_P (dC, dI) classes [(h1, .inr (2, [.ref cs, .ref ca, .ref cf, .ref cl, .int (nI n), .int cx])), (ca, .inl (aC 0, 60, .inl af)), (cf, .inl (aC 0, 60, .inl fc))] H → va_D A [(h1, .inr (2, [.ref cs, .ref ca, .ref cf, .ref cl, .int (nI n), .int cx])), (ca, .inl (aC 0, 60, .inl af)), (cf, .inl (aC 0, 60, .inl fc))] → va_S A s.heap H locs → lv_has ls 9 [(0, .ref h1), (1, .int (nI i)), (2, .int (nI v)), (3, .int (nI u)), (4, .int fst), (5, .int (nI (min (cv Q (i + 1) k v) u))), (6, .int (nI (n - 1 - i))), (7, .int (nI k))] → W p l e (headSpec (wW yX2_buyAtLevel cX2_buyAtLevel 9 (some .int)) ({ frames := 0, cells := 0, slots := 0, locals := 0 } : Room)).room s m ([.ref h1, .int (nI i), .int (nI v), .int (nI u), .int fst] : List Value).toArray below meth c H locs 0 0 (MQ below (va_Qi (fun (r : Int32) (og : Nat → Int32) => r = nI (min (cv Q (i + 1) (n - 1 - i) v) u) ∧ ∀ q, q < 60 → og q = if i + 1 ≤ q ∧ q < i + 1 + (n - 1 - i) ∧ Q q = v ∧ rk Q (i + 1) q < u then nI v else of q) (fun (og : Nat → Int32) (t : State) => va_P (dC, dI) classes [(h1, .inr (2, [.ref cs, .ref ca, .ref cf, .ref cl, .int (nI n), .int cx])), (ca, .inl (aC 0, 60, .inl af)), (cf, .inl (aC 0, 60, .inl og))] t.heap ∧ va_K (dC, dI) classes (TY aC) t ∧ va_D A [(h1, .inr (2, [.ref cs, .ref ca, .ref cf, .ref cl, .int (nI n), .int cx])), (ca, .inl (aC 0, 60, .inl af)), (cf, .inl (aC 0, 60, .inl og))]) A) ([.ref h1, .int (nI i), .int (nI v), .int (nI u), .int fst] : List Value).toArray s 0 0 A) (F0 m 16 ls []) := by
    intro fu
    induction fu with
    | zero => intro k fc hfu; exact absurd hfu (Nat.not_lt_zero _)
    | succ fu ih_16 =>
      intro k fc hfu hk hfc H locs ls hP hD hS hl
      refine lv_iload hx hb dX2_buyAtLevel_16 (lv_at hl 7 rfl) ?_
      refine lv_iload hx hb dX2_buyAtLevel_18 (lv_at hl 6 rfl) ?_
      refine lv_icmp_ge (tgt := 82) hx hb dX2_buyAtLevel_20 (by decide) (fun c_4 => ?_) (fun c_4 => ?_)
      · have hend : k = n - 1 - i ∨ u ≤ cv Q (i + 1) k v := Or.inl (by
          have := (nI_leI (by omega) (by omega)).mp c_4
          omega)
        obtain ⟨hb1, hb2⟩ := bl_end (a := i + 1) (y := n - 1 - i) hfc hk hend
        refine lv_iload hx hb dX2_buyAtLevel_82 (lv_at hl 5 rfl) ?_
        have hP9 := hP.sub (ws' := [(h1, .inr (2, [.ref cs, .ref ca, .ref cf, .ref cl, .int (nI n), .int cx])), (ca, .inl (aC 0, 60, .inl af)), (cf, .inl (aC 0, 60, .inl fc))]) [0, 1, 2] rfl
        have hD9 := hD.sub (ws' := [(h1, .inr (2, [.ref cs, .ref ca, .ref cf, .ref cl, .int (nI n), .int cx])), (ca, .inl (aC 0, 60, .inl af)), (cf, .inl (aC 0, 60, .inl fc))]) [0, 1, 2] (by decide) rfl
        refine W.widen (k := 0) (n := 0) (by omega) (by omega) ?_
        exact W.iret (v := nI (min (cv Q (i + 1) k v) u)) hx hb hr (fun t ht hW => ⟨⟨(nI (min (cv Q (i + 1) k v) u)), (fc), rfl, ⟨by rw [hb1], hb2⟩, by rw [ht]; exact hP9, va_K.moved hW.alike hK, hD9⟩, hS.F ht⟩) hS.2.2 dX2_buyAtLevel_84
      · have hlt : k < n - 1 - i := by
          rcases Nat.lt_or_ge k (n - 1 - i) with q | q
          · exact q
          · exact absurd (nI_le q (by omega)) c_4
        refine lv_iload hx hb dX2_buyAtLevel_23 (lv_at hl 5 rfl) ?_
        refine lv_iload_n hx hb dX2_buyAtLevel_25 rfl (lv_at hl 3 rfl) ?_
        refine lv_icmp_ge (tgt := 82) hx hb dX2_buyAtLevel_26 (by decide) (fun c_5 => ?_) (fun c_5 => ?_)
        · have hend : k = n - 1 - i ∨ u ≤ cv Q (i + 1) k v := Or.inr (by
            have h7 := cv_le (Q := Q) (a := i + 1) (y := k) (v := v)
            have := (nI_leI (by omega) (by omega)).mp c_5
            omega)
          obtain ⟨hb1, hb2⟩ := bl_end (a := i + 1) (y := n - 1 - i) hfc hk hend
          refine lv_iload hx hb dX2_buyAtLevel_82 (lv_at hl 5 rfl) ?_
          have hP9 := hP.sub (ws' := [(h1, .inr (2, [.ref cs, .ref ca, .ref cf, .ref cl, .int (nI n), .int cx])), (ca, .inl (aC 0, 60, .inl af)), (cf, .inl (aC 0, 60, .inl fc))]) [0, 1, 2] rfl
          have hD9 := hD.sub (ws' := [(h1, .inr (2, [.ref cs, .ref ca, .ref cf, .ref cl, .int (nI n), .int cx])), (ca, .inl (aC 0, 60, .inl af)), (cf, .inl (aC 0, 60, .inl fc))]) [0, 1, 2] (by decide) rfl
          refine W.widen (k := 0) (n := 0) (by omega) (by omega) ?_
          exact W.iret (v := nI (min (cv Q (i + 1) k v) u)) hx hb hr (fun t ht hW => ⟨⟨(nI (min (cv Q (i + 1) k v) u)), (fc), rfl, ⟨by rw [hb1], hb2⟩, by rw [ht]; exact hP9, va_K.moved hW.alike hK, hD9⟩, hS.F ht⟩) hS.2.2 dX2_buyAtLevel_84
        · have hcu : cv Q (i + 1) k v < u := by
            have h7 := cv_le (Q := Q) (a := i + 1) (y := k) (v := v)
            rcases Nat.lt_or_ge (cv Q (i + 1) k v) u with q | q
            · exact q
            · exact absurd ((nI_leI (by omega) (by omega)).mpr (by omega)) c_5
          obtain ⟨hq1, hq2⟩ := hQ (i + 1 + k) (by omega) (by omega)
          refine lv_iload hx hb dX2_buyAtLevel_29 (lv_at hl 4 rfl) ?_
          refine lv_if_ne (tgt := 43) hx hb dX2_buyAtLevel_31 (by decide) (fun c_6 => ?_) (fun c_6 => ?_)
          · exact absurd hf c_6
          · refine lv_iload_n hx hb dX2_buyAtLevel_34 rfl (lv_at hl 1 rfl) ?_
            refine lv_iconst (v := 1) hx hb dX2_buyAtLevel_35 (by decide) ?_
            refine lv_iadd hx hb dX2_buyAtLevel_36 ?_
            refine lv_topi (fun x_7 e_7 => ?_)
            have h9 : x_7 = nI (i + 1) := by rw [e_7, nI_1]
            subst h9
            refine lv_iload hx hb dX2_buyAtLevel_37 (lv_at hl 7 rfl) ?_
            refine lv_iadd hx hb dX2_buyAtLevel_39 ?_
            refine lv_topi (fun x_8 e_8 => ?_)
            have h9 : x_8 = nI (i + 1 + k) := by rw [e_8, nI_add]
            subst h9
            refine lv_goto (tgt := 52) hx hb dX2_buyAtLevel_40 (by decide) ?_
            refine lv_istore (lv' := [(8, .int (nI (i + 1 + k))), (0, .ref h1), (1, .int (nI i)), (2, .int (nI v)), (3, .int (nI u)), (4, .int fst), (5, .int (nI (min (cv Q (i + 1) k v) u))), (6, .int (nI (n - 1 - i))), (7, .int (nI k))]) hx hb dX2_buyAtLevel_52 hl (by decide) rfl (fun ls hl => ?_)
            refine lv_aload_n hx hb dX2_buyAtLevel_54 rfl (lv_at hl 1 rfl) ?_
            refine va_get (D := (dC, dI)) (ci := 2) (v := .ref ca) (C := RX2) (T := TX2) (N := 6) hx hb hts inX2 hown hK hP 0 rfl rfl 1 (by decide) (hts _ (gw kw_208 rfl)) (fun _ h9 => h9) rfl dX2_buyAtLevel_55 ?_
            refine lv_iload hx hb dX2_buyAtLevel_58 (lv_at hl 0 rfl) ?_
            have h_9 : vp_in (nI (i + 1 + k)) 60 := vp_in_nI (by omega) (by omega)
            refine va_iald hx hb hK hP 1 0 rfl rfl h_9 dX2_buyAtLevel_60 ?_
            refine lv_topi (fun x_10 e_10 => ?_)
            have h9 : x_10 = nI (Q (i + 1 + k)) := by rw [e_10, nI_clamp (by omega)]; exact hq1
            subst h9
            refine lv_iload_n hx hb dX2_buyAtLevel_61 rfl (lv_at hl 3 rfl) ?_
            refine lv_icmp_ne (tgt := 76) hx hb dX2_buyAtLevel_62 (by decide) (fun c_11 => ?_) (fun c_11 => ?_)
            · have hqv : ¬ Q (i + 1 + k) = v := fun q => c_11 (by rw [q])
              have hb2 := bl_ne (a := i + 1) hfc hqv
              have h9 : nI (min (cv Q (i + 1) k v) u) = nI (min (cv Q (i + 1) (k + 1) v) u) := by rw [cv_suc, if_neg hqv]; rfl
              rw [h9] at hl
              obtain ⟨x_12, e_12⟩ : ∃ y : Int32, y = (nI k) + 1 := ⟨_, rfl⟩
              refine lv_iinc (v := x_12) (lv' := [(7, .int x_12), (8, .int (nI (i + 1 + k))), (0, .ref h1), (1, .int (nI i)), (2, .int (nI v)), (3, .int (nI u)), (4, .int fst), (5, .int (nI (min (cv Q (i + 1) (k + 1) v) u))), (6, .int (nI (n - 1 - i)))]) hx hb dX2_buyAtLevel_76 hl (k := 8) rfl (by rw [e_12]; rfl) (by decide) rfl (fun ls hl => ?_)
              have h9 : x_12 = nI (k + 1) := by rw [e_12, nI_1]
              subst h9
              refine lv_goto (tgt := 16) hx hb dX2_buyAtLevel_79 (by decide) ?_
              exact ih_16 (k + 1) fc (by omega) (by omega) (hb2) _ _ _ (hP.sub [0, 1, 2] rfl) (hD.sub [0, 1, 2] (by decide) rfl) hS (lv_sub hl [2, 3, 4, 5, 6, 7, 8, 0] rfl)
            · refine lv_aload_n hx hb dX2_buyAtLevel_65 rfl (lv_at hl 1 rfl) ?_
              refine va_get (D := (dC, dI)) (ci := 2) (v := .ref cf) (C := RX2) (T := TX2) (N := 6) hx hb hts inX2 hown hK hP 0 rfl rfl 2 (by decide) (hts _ (gw kw_209 rfl)) (fun _ h9 => h9) rfl dX2_buyAtLevel_66 ?_
              refine lv_iload hx hb dX2_buyAtLevel_69 (lv_at hl 0 rfl) ?_
              refine lv_iload_n hx hb dX2_buyAtLevel_71 rfl (lv_at hl 3 rfl) ?_
              have h_13 : vp_in (nI (i + 1 + k)) 60 := vp_in_nI (by omega) (by omega)
              refine va_iast hx hb hK hP hD hS 2 0 rfl rfl h_13 dX2_buyAtLevel_72 (fun H locs hP hD hS => ?_)
              obtain ⟨f_14, e_f_14⟩ : ∃ y : Nat → Int32, y = upd fc (nI (i + 1 + k) : Int32).toNatClampNeg (nI v) := ⟨_, rfl⟩
              have hP : va_P (dC, dI) classes [(h1, .inr (2, [.ref cs, .ref ca, .ref cf, .ref cl, .int (nI n), .int cx])), (ca, .inl (aC 0, 60, .inl af)), (cf, .inl (aC 0, 60, .inl f_14))] H := by rw [e_f_14]; exact hP
              have hD : va_D A [(h1, .inr (2, [.ref cs, .ref ca, .ref cf, .ref cl, .int (nI n), .int cx])), (ca, .inl (aC 0, 60, .inl af)), (cf, .inl (aC 0, 60, .inl f_14))] := by rw [e_f_14]; exact hD
              obtain ⟨x_15, e_15⟩ : ∃ y : Int32, y = (nI (min (cv Q (i + 1) k v) u)) + 1 := ⟨_, rfl⟩
              refine lv_iinc (v := x_15) (lv' := [(5, .int x_15), (8, .int (nI (i + 1 + k))), (0, .ref h1), (1, .int (nI i)), (2, .int (nI v)), (3, .int (nI u)), (4, .int fst), (6, .int (nI (n - 1 - i))), (7, .int (nI k))]) hx hb dX2_buyAtLevel_73 hl (k := 6) rfl (by rw [e_15]; rfl) (by decide) rfl (fun ls hl => ?_)
              have hqv : Q (i + 1 + k) = v := (nI_eq (by omega) (by omega)).mp c_11
              have hb2 := bl_eq (a := i + 1) (g := f_14) hfc (by rw [e_f_14, nI_clamp (by omega)]) hqv hcu
              have h9 : x_15 = nI (min (cv Q (i + 1) (k + 1) v) u) := by rw [e_15, cv_suc, if_pos hqv, nI_1, show min (cv Q (i + 1) k v) u + 1 = min (cv Q (i + 1) k v + 1) u by omega]
              subst h9
              obtain ⟨x_16, e_16⟩ : ∃ y : Int32, y = (nI k) + 1 := ⟨_, rfl⟩
              refine lv_iinc (v := x_16) (lv' := [(7, .int x_16), (5, .int (nI (min (cv Q (i + 1) (k + 1) v) u))), (8, .int (nI (i + 1 + k))), (0, .ref h1), (1, .int (nI i)), (2, .int (nI v)), (3, .int (nI u)), (4, .int fst), (6, .int (nI (n - 1 - i)))]) hx hb dX2_buyAtLevel_76 hl (k := 8) rfl (by rw [e_16]; rfl) (by decide) rfl (fun ls hl => ?_)
              have h9 : x_16 = nI (k + 1) := by rw [e_16, nI_1]
              subst h9
              refine lv_goto (tgt := 16) hx hb dX2_buyAtLevel_79 (by decide) ?_
              exact ih_16 (k + 1) f_14 (by omega) (by omega) (hb2) _ _ _ (hP.sub [0, 1, 2] rfl) (hD.sub [0, 1, 2] (by decide) rfl) hS (lv_sub hl [3, 4, 5, 6, 7, 1, 8, 0] rfl)
  exact lp_16 ((n - 1 - i - 0) + 1) 0 of (Nat.lt_succ_self _) (Nat.zero_le _) (fun q _ => by rw [if_neg (fun p => by omega)]) _ _ _ (hP.sub [0, 1, 2] rfl) (hD.sub [0, 1, 2] (by decide) rfl) hS (lv_sub hl [3, 4, 5, 6, 7, 2, 1, 0] rfl)
