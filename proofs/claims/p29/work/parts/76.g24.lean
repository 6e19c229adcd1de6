set_option maxHeartbeats 1000000 in
set_option maxRecDepth 100000 in
/-- X12_divisor -/
theorem c_X12_divisor (l : Launch) (dC : Nat → ClassId) (dI : Nat → Nat → Nat) (aC : Nat → ClassId) (sz : Nat) (a : Nat) (b : Nat) (ha : a < 2 ^ 63) (hbb : 0 < b ∧ b < 2 ^ 63) : Met l yX12_divisor (wW yX12_divisor cX12_divisor 10 (some .long)) ({ frames := 0, cells := 0, slots := 0, locals := 0 } : Room) (va_Pc [Value.long (lI a), Value.long (lI b)] (fun U => U.heap.size = sz ∧ va_P (dC, dI) classes [] U.heap ∧ va_K (dC, dI) classes (TY aC) U ∧ va_D (fun _ => True) [] ∧ NX U)) (va_Ql (fun (r : Int64) (_ : Unit) => r = lI (Nat.gcd a b)) (fun (_ : Unit) (t : State) => va_P (dC, dI) classes [] t.heap ∧ va_K (dC, dI) classes (TY aC) t ∧ va_D (va_A [] sz) []) (va_A [] sz)) 0 0 (va_A [] sz) := by
  refine Met.ofW (cc := cX12_divisor) (maxL := 10) (ret := (some .long)) (by decide) rfl ?_
  intro p e s m args below meth c s₁ B hml hv
  obtain ⟨rfl, hsz, hP, hK, hD0, hN⟩ := hv
  have hx := B.exec
  have hb := B.bytes
  have hr := B.returns
  have hts0 := atoms_spec (ws := (wW yX12_divisor cX12_divisor 10 (some .long))) B.pre
  have hts : ∀ w9 ∈ lw_G, w9.before ([Value.long (lI a), Value.long (lI b)] : List Value).toArray s = true := fun w9 h9 => hts0 w9 (List.mem_cons_of_mem _ h9)
  have hown : s.vm.findClass RX12 = some m.cls := findClass_of_methodNamed (x := yX12_divisor) B.named
  have hlocks := B.notSynchronized
  subst hsz
  have hD := hD0.self (sz := s.heap.size)
  generalize hAe : va_A [] s.heap.size = A at hD ⊢
  have hA : ∀ q : Nat, s.heap.size ≤ q → A q := fun q h => by rw [← hAe]; exact Or.inr h
  obtain ⟨H, hHe⟩ : ∃ H : Heap, H = s.heap := ⟨_, rfl⟩
  have hS : va_S A s.heap H [] := by rw [hHe]; exact va_S.rf
  have hP : va_P (dC, dI) classes [] H := by rw [hHe]; exact hP
  have hl := lv_entry ([Value.long (lI a), Value.long (lI b)]) (n := 10) (Nat.le_of_ble_eq_true rfl)
  rw [lg_entry_eq]
  generalize (lg_sl ([Value.long (lI a), Value.long (lI b)]) ++ List.replicate (10 - (lg_sl ([Value.long (lI a), Value.long (lI b)])).length) Slot.unset).toArray = ls at hl ⊢
  have hl : lv_has ls 10 [(0, Value.long (lI a)), (2, Value.long (lI b))] := hl
  rw [← hHe]
  refine lv_lload_n hx hb dX12_divisor_0 rfl (lv_at hl 0 rfl) ?_
  refine lv_lstore (lv' := [(4, Value.long (lI a)), (0, Value.long (lI a)), (2, Value.long (lI b))]) hx hb dX12_divisor_1 hl (by decide) rfl (fun ls hl => ?_)
  refine lv_lload_n hx hb dX12_divisor_3 rfl (lv_at hl 2 rfl) ?_
  refine lv_lstore (lv' := [(6, Value.long (lI b)), (4, Value.long (lI a)), (0, Value.long (lI a)), (2, Value.long (lI b))]) hx hb dX12_divisor_4 hl (by decide) rfl (fun ls hl => ?_)
  have lp_6 : ∀ (fu : Nat) (x : Nat) (y : Nat) (hfu : y < fu) (hx9 : x < 2 ^ 63) (hy9 : y < 2 ^ 63) (hgc : Nat.gcd x y = Nat.gcd a b) (H : Heap) (locs : List Loc) (ls : Array Slot), va_P (dC, dI) classes [] H → va_D A [] → va_S A s.heap H locs → lv_has ls 10 [(0, Value.long (lI a)), (2, Value.long (lI b)), (4, Value.long (lI x)), (6, Value.long (lI y))] → W p l e (headSpec (wW yX12_divisor cX12_divisor 10 (some .long)) ({ frames := 0, cells := 0, slots := 0, locals := 0 } : Room)).room s m ([Value.long (lI a), Value.long (lI b)] : List Value).toArray below meth c H locs 0 0 (MQ below (va_Ql (fun (r : Int64) (_ : Unit) => r = lI (Nat.gcd a b)) (fun (_ : Unit) (t : State) => va_P (dC, dI) classes [] t.heap ∧ va_K (dC, dI) classes (TY aC) t ∧ va_D A []) A) ([Value.long (lI a), Value.long (lI b)] : List Value).toArray s 0 0 A) (F0 m 6 ls []) := by
    intro fu
    induction fu with
    | zero => intro x y hfu; exact absurd hfu (Nat.not_lt_zero _)
    | succ fu ih_6 =>
      intro x y hfu hx9 hy9 hgc H locs ls hP hD hS hl
      refine lv_lload hx hb dX12_divisor_6 (lv_at hl 3 rfl) ?_
      refine lv_lconst (v := 0) hx hb dX12_divisor_8 (by decide) ?_
      refine W.lcmp hx hb dX12_divisor_9 ?_
      refine lv_topi (fun x_1 e_1 => ?_)
      refine lv_if_eq (tgt := 31) hx hb dX12_divisor_10 (by decide) (fun c_2 => ?_) (fun c_2 => ?_)
      · have hy0 : y = 0 := (lI_eq hy9 (b := 0) (by omega)).mp (lc_0 (x := lI y) (y := lI 0) (by have h7 := c_2; rw [e_1] at h7; exact h7))
        refine lv_lload hx hb dX12_divisor_31 (lv_at hl 2 rfl) ?_
        have hpd9 := pd_N (cx := []) hP hD [] (by decide) rfl
        have hP9 := hpd9.1
        have hD9 := hpd9.2
        refine W.widen (k := 0) (n := 0) (by omega) (by omega) ?_
        exact W.lret (v := lI x) hx hb hr (fun t ht hW => ⟨⟨(lI x), (), rfl, by rw [← hgc, hy0, Nat.gcd_zero_right], by rw [ht]; exact hP9, va_K.moved hW.alike hK, hD9⟩, hS.F ht⟩) hS.2.2 dX12_divisor_33
      · have hy0 : 0 < y := Nat.pos_of_ne_zero fun q => lc_ne (by rw [← e_1]; exact c_2) (by rw [q]; rfl)
        have hrm : x % y < y := Nat.mod_lt _ hy0
        refine lv_lload hx hb dX12_divisor_13 (lv_at hl 2 rfl) ?_
        refine lv_lload hx hb dX12_divisor_15 (lv_at hl 3 rfl) ?_
        refine lv_lrem hx hb dX12_divisor_17 (fun q => by have := (lI_eq hy9 (b := 0) (by omega)).mp q; omega) ?_
        refine lv_topl (fun x_3 e_3 => ?_)
        have h9 : x_3 = lI (x % y) := by rw [e_3]; exact lI_rem hx9 hy0 hy9
        subst h9
        refine lv_lstore (lv' := [(8, Value.long (lI (x % y))), (0, Value.long (lI a)), (2, Value.long (lI b)), (4, Value.long (lI x)), (6, Value.long (lI y))]) hx hb dX12_divisor_18 hl (by decide) rfl (fun ls hl => ?_)
        refine lv_lload hx hb dX12_divisor_20 (lv_at hl 4 rfl) ?_
        refine lv_lstore (lv' := [(4, Value.long (lI y)), (8, Value.long (lI (x % y))), (0, Value.long (lI a)), (2, Value.long (lI b)), (6, Value.long (lI y))]) hx hb dX12_divisor_22 hl (by decide) rfl (fun ls hl => ?_)
        refine lv_lload hx hb dX12_divisor_24 (lv_at hl 1 rfl) ?_
        refine lv_lstore (lv' := [(6, Value.long (lI (x % y))), (4, Value.long (lI y)), (8, Value.long (lI (x % y))), (0, Value.long (lI a)), (2, Value.long (lI b))]) hx hb dX12_divisor_26 hl (by decide) rfl (fun ls hl => ?_)
        refine lv_goto (tgt := 6) hx hb dX12_divisor_28 (by decide) ?_
        exact ih_6 y (x % y) (by omega) (hy9) (Nat.lt_trans hrm hy9) ((Nat.gcd_comm y (x % y)).trans ((Nat.gcd_rec y x).symm.trans ((Nat.gcd_comm y x).trans hgc))) _ _ _ (hP.sub [] rfl) (hD.sub [] (by decide) rfl) hS (lv_sub hl [3, 4, 1, 0] rfl)
  exact lp_6 (b + 1) a b (Nat.lt_succ_self _) (ha) (hbb.2) (rfl) _ _ _ (hP.sub [] rfl) (hD.sub [] (by decide) rfl) hS (lv_sub hl [2, 3, 1, 0] rfl)

set_option maxHeartbeats 1000000 in
set_option maxRecDepth 100000 in
/-- X12_bits -/
theorem c_X12_bits (l : Launch) (dC : Nat → ClassId) (dI : Nat → Nat → Nat) (aC : Nat → ClassId) (sz : Nat) (v : Int32)  : Met l yX12_bits (wW yX12_bits cX12_bits 3 (some .int)) ({ frames := 0, cells := 0, slots := 0, locals := 0 } : Room) (va_Pc [Value.int v] (fun U => U.heap.size = sz ∧ va_P (dC, dI) classes [] U.heap ∧ va_K (dC, dI) classes (TY aC) U ∧ va_D (fun _ => True) [] ∧ NX U)) (va_Qi (fun (r : Int32) (_ : Unit) => r = nI (sumr (fun b => if bt v b = true then 1 else 0) 0 31)) (fun (_ : Unit) (t : State) => va_P (dC, dI) classes [] t.heap ∧ va_K (dC, dI) classes (TY aC) t ∧ va_D (va_A [] sz) []) (va_A [] sz)) 0 0 (va_A [] sz) := by
  refine Met.ofW (cc := cX12_bits) (maxL := 3) (ret := (some .int)) (by decide) rfl ?_
  intro p e s m args below meth c s₁ B hml hv
  obtain ⟨rfl, hsz, hP, hK, hD0, hN⟩ := hv
  have hx := B.exec
  have hb := B.bytes
  have hr := B.returns
  have hts0 := atoms_spec (ws := (wW yX12_bits cX12_bits 3 (some .int))) B.pre
  have hts : ∀ w9 ∈ lw_G, w9.before ([Value.int v] : List Value).toArray s = true := fun w9 h9 => hts0 w9 (List.mem_cons_of_mem _ h9)
  have hown : s.vm.findClass RX12 = some m.cls := findClass_of_methodNamed (x := yX12_bits) B.named
  have hlocks := B.notSynchronized
  subst hsz
  have hD := hD0.self (sz := s.heap.size)
  generalize hAe : va_A [] s.heap.size = A at hD ⊢
  have hA : ∀ q : Nat, s.heap.size ≤ q → A q := fun q h => by rw [← hAe]; exact Or.inr h
  obtain ⟨H, hHe⟩ : ∃ H : Heap, H = s.heap := ⟨_, rfl⟩
  have hS : va_S A s.heap H [] := by rw [hHe]; exact va_S.rf
  have hP : va_P (dC, dI) classes [] H := by rw [hHe]; exact hP
  have hl := lv_entry ([Value.int v]) (n := 3) (Nat.le_of_ble_eq_true rfl)
  rw [lg_entry_eq]
  generalize (lg_sl ([Value.int v]) ++ List.replicate (3 - (lg_sl ([Value.int v])).length) Slot.unset).toArray = ls at hl ⊢
  have hl : lv_has ls 3 [(0, Value.int v)] := hl
  rw [← hHe]
  refine lv_iconst (v := 0) hx hb dX12_bits_0 (by decide) ?_
  refine lv_topi (fun x_1 e_1 => ?_)
  have h9 : x_1 = nI (sumr (fun b => if bt v b = true then 1 else 0) 0 0) := by rw [e_1]; rfl
  subst h9
  refine lv_istore_n (lv' := [(1, Value.int (nI (sumr (fun b => if bt v b = true then 1 else 0) 0 0))), (0, Value.int v)]) hx hb dX12_bits_1 rfl hl (by decide) rfl (fun ls hl => ?_)
  refine lv_iconst (v := 0) hx hb dX12_bits_2 (by decide) ?_
  refine lv_istore_n (lv' := [(2, Value.int 0), (1, Value.int (nI (sumr (fun b => if bt v b = true then 1 else 0) 0 0))), (0, Value.int v)]) hx hb dX12_bits_3 rfl hl (by decide) rfl (fun ls hl => ?_)
  have lp_4 : ∀ (fu : Nat) (k : Nat) (hfu : 31 - k < fu) (hk : k ≤ 31) (H : Heap) (locs : List Loc) (ls : Array Slot), va_P (dC, dI) classes [] H → va_D A [] → va_S A s.heap H locs → lv_has ls 3 [(0, Value.int v), (1, Value.int (nI (sumr (fun b => if bt v b = true then 1 else 0) 0 k))), (2, Value.int (nI k))] → W p l e (headSpec (wW yX12_bits cX12_bits 3 (some .int)) ({ frames := 0, cells := 0, slots := 0, locals := 0 } : Room)).room s m ([Value.int v] : List Value).toArray below meth c H locs 0 0 (MQ below (va_Qi (fun (r : Int32) (_ : Unit) => r = nI (sumr (fun b => if bt v b = true then 1 else 0) 0 31)) (fun (_ : Unit) (t : State) => va_P (dC, dI) classes [] t.heap ∧ va_K (dC, dI) classes (TY aC) t ∧ va_D A []) A) ([Value.int v] : List Value).toArray s 0 0 A) (F0 m 4 ls []) := by
    intro fu
    induction fu with
    | zero => intro k hfu; exact absurd hfu (Nat.not_lt_zero _)
    | succ fu ih_4 =>
      intro k hfu hk H locs ls hP hD hS hl
      refine lv_iload_n hx hb dX12_bits_4 rfl (lv_at hl 2 rfl) ?_
      refine lv_bipush (v := 31) hx hb dX12_bits_5 (by decide) ?_
      refine lv_icmp_ge (tgt := 24) hx hb dX12_bits_7 (by decide) (fun c_2 => ?_) (fun c_2 => ?_)
      · have hk31 : k = 31 := by
          rcases Nat.lt_or_ge k 31 with q | q
          · exact absurd c_2 (nI_ge (b := 31) q (by omega))
          · omega
        refine lv_iload_n hx hb dX12_bits_24 rfl (lv_at hl 1 rfl) ?_
        have hpd9 := pd_N (cx := []) hP hD [] (by decide) rfl
        have hP9 := hpd9.1
        have hD9 := hpd9.2
        refine W.widen (k := 0) (n := 0) (by omega) (by omega) ?_
        exact W.iret (v := nI (sumr (fun b => if bt v b = true then 1 else 0) 0 k)) hx hb hr (fun t ht hW => ⟨⟨(nI (sumr (fun b => if bt v b = true then 1 else 0) 0 k)), (), rfl, by rw [hk31], by rw [ht]; exact hP9, va_K.moved hW.alike hK, hD9⟩, hS.F ht⟩) hS.2.2 dX12_bits_25
      · have hlt : k < 31 := by
          rcases Nat.lt_or_ge k 31 with q | q
          · exact q
          · exact absurd (nI_le (a := 31) q (by omega)) c_2
        refine lv_iload_n hx hb dX12_bits_10 rfl (lv_at hl 1 rfl) ?_
        refine lv_iload_n hx hb dX12_bits_11 rfl (lv_at hl 0 rfl) ?_
        refine lv_iload_n hx hb dX12_bits_12 rfl (lv_at hl 2 rfl) ?_
        refine lv_ishr hx hb dX12_bits_13 ?_
        refine lv_topi (fun x_3 e_3 => ?_)
        refine lv_iconst (v := 1) hx hb dX12_bits_14 (by decide) ?_
        refine lv_iand hx hb dX12_bits_15 ?_
        refine lv_topi (fun x_4 e_4 => ?_)
        have h9 : x_4 = nI (if bt v k = true then 1 else 0) := by rw [e_4, e_3, b_bit (by omega)]; split <;> rfl
        subst h9
        refine lv_iadd hx hb dX12_bits_16 ?_
        refine lv_topi (fun x_5 e_5 => ?_)
        have h9 : x_5 = nI (sumr (fun b => if bt v b = true then 1 else 0) 0 (k + 1)) := by rw [e_5, nI_add]; congr 1; show _ = sumr _ 0 k + (if bt v (0 + k) = true then 1 else 0); rw [Nat.zero_add]
        subst h9
        refine lv_istore_n (lv' := [(1, Value.int (nI (sumr (fun b => if bt v b = true then 1 else 0) 0 (k + 1)))), (0, Value.int v), (2, Value.int (nI k))]) hx hb dX12_bits_17 rfl hl (by decide) rfl (fun ls hl => ?_)
        obtain ⟨x_6, e_6⟩ : ∃ y : Int32, y = (nI k) + 1 := ⟨_, rfl⟩
        refine lv_iinc (v := x_6) (lv' := [(2, Value.int x_6), (1, Value.int (nI (sumr (fun b => if bt v b = true then 1 else 0) 0 (k + 1)))), (0, Value.int v)]) hx hb dX12_bits_18 hl (k := 2) rfl (by rw [e_6]; rfl) (by decide) rfl (fun ls hl => ?_)
        have h9 : x_6 = nI (k + 1) := by rw [e_6, nI_1]
        subst h9
        refine lv_goto (tgt := 4) hx hb dX12_bits_21 (by decide) ?_
        exact ih_4 (k + 1) (by omega) (by omega) _ _ _ (hP.sub [] rfl) (hD.sub [] (by decide) rfl) hS (lv_sub hl [2, 1, 0] rfl)
  exact lp_4 ((31 - 0) + 1) 0 (Nat.lt_succ_self _) (by omega) _ _ _ (hP.sub [] rfl) (hD.sub [] (by decide) rfl) hS (lv_sub hl [2, 1, 0] rfl)

set_option maxHeartbeats 1000000 in
set_option maxRecDepth 100000 in
/-- X12_isFree -/
theorem c_X12_isFree (l : Launch) (dC : Nat → ClassId) (dI : Nat → Nat → Nat) (aC : Nat → ClassId) (sz : Nat) (g0 : Nat) (m_refused : Nat) (m_kind : Nat) (m_figure : Nat) (m_weight : Nat) (m_got : Nat) (m_setting : Nat) (m_tape : Nat) (m_letter : Nat) (m_letterAt : Nat) (m_told : Nat) (m_kept : Nat) (m_price : Nat) (m_offer : Nat) (m_gets : Nat) (m_yes : Nat) (m_buys : Nat) (m_ends : Nat) (m_carried : Nat) (m_row : Nat) (m_keptRow : Nat) (m_likeGets : Nat) (m_likePrice : Nat) (m_ahead : Nat) (tp : Int32) (mat : Int32) (stm : Int32) (him : Int32) (ki : Int32) (crs : Int32) (rm : Int32) (n : Nat) (sn : Nat) (dn : Int32) (pf : Nat → Int32) (v : Int32) (Pq : Nat → Nat) (hn8 : n ≤ 8) (hsn : sn < n) (hPq : ∀ q, sn < q → q < n → pf (9 * sn + q) = nI (Pq q) ∧ Pq q ≤ 110) : Met l yX12_isFree (wW yX12_isFree cX12_isFree 3 (some .boolean)) ({ frames := 0, cells := 0, slots := 0, locals := 0 } : Room) (va_Pc [Value.ref g0, Value.int v] (fun U => U.heap.size = sz ∧ va_P (dC, dI) classes [oX12 g0 m_refused m_kind m_figure m_weight m_got m_setting (nI n) (nI sn) dn m_tape m_letter m_letterAt m_told tp mat stm m_kept him ki crs m_price m_offer m_gets m_yes m_buys m_ends m_carried m_row rm m_keptRow m_likeGets m_likePrice m_ahead, cI aC m_price 81 pf] U.heap ∧ va_K (dC, dI) classes (TY aC) U ∧ va_D (fun _ => True) [oX12 g0 m_refused m_kind m_figure m_weight m_got m_setting (nI n) (nI sn) dn m_tape m_letter m_letterAt m_told tp mat stm m_kept him ki crs m_price m_offer m_gets m_yes m_buys m_ends m_carried m_row rm m_keptRow m_likeGets m_likePrice m_ahead, cI aC m_price 81 pf] ∧ NX U)) (va_Qi (fun (r : Int32) (_ : Unit) => (r = 1 ∧ lgS Pq v sn (n - 1 - sn) = 0) ∨ (r = 0 ∧ ¬ lgS Pq v sn (n - 1 - sn) = 0)) (fun (_ : Unit) (t : State) => va_P (dC, dI) classes [oX12 g0 m_refused m_kind m_figure m_weight m_got m_setting (nI n) (nI sn) dn m_tape m_letter m_letterAt m_told tp mat stm m_kept him ki crs m_price m_offer m_gets m_yes m_buys m_ends m_carried m_row rm m_keptRow m_likeGets m_likePrice m_ahead, cI aC m_price 81 pf] t.heap ∧ va_K (dC, dI) classes (TY aC) t ∧ va_D (va_A [oX12 g0 m_refused m_kind m_figure m_weight m_got m_setting (nI n) (nI sn) dn m_tape m_letter m_letterAt m_told tp mat stm m_kept him ki crs m_price m_offer m_gets m_yes m_buys m_ends m_carried m_row rm m_keptRow m_likeGets m_likePrice m_ahead, cI aC m_price 81 pf] sz) [oX12 g0 m_refused m_kind m_figure m_weight m_got m_setting (nI n) (nI sn) dn m_tape m_letter m_letterAt m_told tp mat stm m_kept him ki crs m_price m_offer m_gets m_yes m_buys m_ends m_carried m_row rm m_keptRow m_likeGets m_likePrice m_ahead, cI aC m_price 81 pf]) (va_A [oX12 g0 m_refused m_kind m_figure m_weight m_got m_setting (nI n) (nI sn) dn m_tape m_letter m_letterAt m_told tp mat stm m_kept him ki crs m_price m_offer m_gets m_yes m_buys m_ends m_carried m_row rm m_keptRow m_likeGets m_likePrice m_ahead, cI aC m_price 81 pf] sz)) 0 0 (va_A [oX12 g0 m_refused m_kind m_figure m_weight m_got m_setting (nI n) (nI sn) dn m_tape m_letter m_letterAt m_told tp mat stm m_kept him ki crs m_price m_offer m_gets m_yes m_buys m_ends m_carried m_row rm m_keptRow m_likeGets m_likePrice m_ahead, cI aC m_price 81 pf] sz) := by
  refine Met.ofW (cc := cX12_isFree) (maxL := 3) (ret := (some .boolean)) (by decide) rfl ?_
  intro p e s m args below meth c s₁ B hml hv
  obtain ⟨rfl, hsz, hP, hK, hD0, hN⟩ := hv
  have hx := B.exec
  have hb := B.bytes
  have hr := B.returns
  have hts0 := atoms_spec (ws := (wW yX12_isFree cX12_isFree 3 (some .boolean))) B.pre
  have hts : ∀ w9 ∈ lw_G, w9.before ([Value.ref g0, Value.int v] : List Value).toArray s = true := fun w9 h9 => hts0 w9 (List.mem_cons_of_mem _ h9)
  have hown : s.vm.findClass RX12 = some m.cls := findClass_of_methodNamed (x := yX12_isFree) B.named
  have hlocks := B.notSynchronized
  subst hsz
  have hD := hD0.self (sz := s.heap.size)
  generalize hAe : va_A [oX12 g0 m_refused m_kind m_figure m_weight m_got m_setting (nI n) (nI sn) dn m_tape m_letter m_letterAt m_told tp mat stm m_kept him ki crs m_price m_offer m_gets m_yes m_buys m_ends m_carried m_row rm m_keptRow m_likeGets m_likePrice m_ahead, cI aC m_price 81 pf] s.heap.size = A at hD ⊢
  have hA : ∀ q : Nat, s.heap.size ≤ q → A q := fun q h => by rw [← hAe]; exact Or.inr h
  obtain ⟨H, hHe⟩ : ∃ H : Heap, H = s.heap := ⟨_, rfl⟩
  have hS : va_S A s.heap H [] := by rw [hHe]; exact va_S.rf
  have hP : va_P (dC, dI) classes [oX12 g0 m_refused m_kind m_figure m_weight m_got m_setting (nI n) (nI sn) dn m_tape m_letter m_letterAt m_told tp mat stm m_kept him ki crs m_price m_offer m_gets m_yes m_buys m_ends m_carried m_row rm m_keptRow m_likeGets m_likePrice m_ahead, cI aC m_price 81 pf] H := by rw [hHe]; exact hP
  have hl := lv_entry ([Value.ref g0, Value.int v]) (n := 3) (Nat.le_of_ble_eq_true rfl)
  rw [lg_entry_eq]
  generalize (lg_sl ([Value.ref g0, Value.int v]) ++ List.replicate (3 - (lg_sl ([Value.ref g0, Value.int v])).length) Slot.unset).toArray = ls at hl ⊢
  have hl : lv_has ls 3 [(0, Value.ref g0), (1, Value.int v)] := hl
  rw [← hHe]
  refine lv_aload_n hx hb dX12_isFree_0 rfl (lv_at hl 0 rfl) ?_
  refine va_get (D := (dC, dI)) (ci := 12) (v := Value.int (nI sn)) (C := RX12) (T := TX12) (N := 33) hx hb hts inX12 hown hK hP 0 rfl rfl 7 (by decide) (hts _ (gw kw_724 rfl)) (fun _ h9 => h9) rfl dX12_isFree_1 ?_
  refine lv_iconst (v := 1) hx hb dX12_isFree_4 (by decide) ?_
  refine lv_iadd hx hb dX12_isFree_5 ?_
  refine lv_topi (fun x_1 e_1 => ?_)
  refine lv_istore_n (lv' := [(2, Value.int x_1), (0, Value.ref g0), (1, Value.int v)]) hx hb dX12_isFree_6 rfl hl (by decide) rfl (fun ls hl => ?_)
  have h9 : x_1 = nI (sn + 1) := by rw [e_1, nI_1]
  subst h9
  have lp_7 : ∀ (fu : Nat) (j : Nat) (hfu : n - j < fu) (hj : sn < j ∧ j ≤ n) (hfr : lgS Pq v sn (j - (sn + 1)) = 0) (H : Heap) (locs : List Loc) (ls : Array Slot), va_P (dC, dI) classes [oX12 g0 m_refused m_kind m_figure m_weight m_got m_setting (nI n) (nI sn) dn m_tape m_letter m_letterAt m_told tp mat stm m_kept him ki crs m_price m_offer m_gets m_yes m_buys m_ends m_carried m_row rm m_keptRow m_likeGets m_likePrice m_ahead, cI aC m_price 81 pf] H → va_D A [oX12 g0 m_refused m_kind m_figure m_weight m_got m_setting (nI n) (nI sn) dn m_tape m_letter m_letterAt m_told tp mat stm m_kept him ki crs m_price m_offer m_gets m_yes m_buys m_ends m_carried m_row rm m_keptRow m_likeGets m_likePrice m_ahead, cI aC m_price 81 pf] → va_S A s.heap H locs → lv_has ls 3 [(0, Value.ref g0), (1, Value.int v), (2, Value.int (nI j))] → W p l e (headSpec (wW yX12_isFree cX12_isFree 3 (some .boolean)) ({ frames := 0, cells := 0, slots := 0, locals := 0 } : Room)).room s m ([Value.ref g0, Value.int v] : List Value).toArray below meth c H locs 0 0 (MQ below (va_Qi (fun (r : Int32) (_ : Unit) => (r = 1 ∧ lgS Pq v sn (n - 1 - sn) = 0) ∨ (r = 0 ∧ ¬ lgS Pq v sn (n - 1 - sn) = 0)) (fun (_ : Unit) (t : State) => va_P (dC, dI) classes [oX12 g0 m_refused m_kind m_figure m_weight m_got m_setting (nI n) (nI sn) dn m_tape m_letter m_letterAt m_told tp mat stm m_kept him ki crs m_price m_offer m_gets m_yes m_buys m_ends m_carried m_row rm m_keptRow m_likeGets m_likePrice m_ahead, cI aC m_price 81 pf] t.heap ∧ va_K (dC, dI) classes (TY aC) t ∧ va_D A [oX12 g0 m_refused m_kind m_figure m_weight m_got m_setting (nI n) (nI sn) dn m_tape m_letter m_letterAt m_told tp mat stm m_kept him ki crs m_price m_offer m_gets m_yes m_buys m_ends m_carried m_row rm m_keptRow m_likeGets m_likePrice m_ahead, cI aC m_price 81 pf]) A) ([Value.ref g0, Value.int v] : List Value).toArray s 0 0 A) (F0 m 7 ls []) := by
    intro fu
    induction fu with
    | zero => intro j hfu; exact absurd hfu (Nat.not_lt_zero _)
    | succ fu ih_7 =>
      intro j hfu hj hfr H locs ls hP hD hS hl
      refine lv_iload_n hx hb dX12_isFree_7 rfl (lv_at hl 2 rfl) ?_
      refine lv_aload_n hx hb dX12_isFree_8 rfl (lv_at hl 0 rfl) ?_
      refine va_get (D := (dC, dI)) (ci := 12) (v := Value.int (nI n)) (C := RX12) (T := TX12) (N := 33) hx hb hts inX12 hown hK hP 0 rfl rfl 6 (by decide) (hts _ (gw kw_723 rfl)) (fun _ h9 => h9) rfl dX12_isFree_9 ?_
      refine lv_icmp_ge (tgt := 49) hx hb dX12_isFree_12 (by decide) (fun c_2 => ?_) (fun c_2 => ?_)
      · have hjn : j = n := by
          rcases Nat.lt_or_ge j n with q | q
          · exact absurd c_2 (nI_ge q (by omega))
          · omega
        refine lv_iconst (v := 1) hx hb dX12_isFree_49 (by decide) ?_
        have hpd9 := pd_N (cx := [oX12 g0 m_refused m_kind m_figure m_weight m_got m_setting (nI n) (nI sn) dn m_tape m_letter m_letterAt m_told tp mat stm m_kept him ki crs m_price m_offer m_gets m_yes m_buys m_ends m_carried m_row rm m_keptRow m_likeGets m_likePrice m_ahead, cI aC m_price 81 pf]) hP hD [0, 1] (by decide) rfl
        have hP9 := hpd9.1
        have hD9 := hpd9.2
        refine W.widen (k := 0) (n := 0) (by omega) (by omega) ?_
        exact W.zret (v := 1) hx hb hr rfl (fun t ht hW => ⟨⟨1, (), rfl, Or.inl ⟨rfl, by rw [show n - 1 - sn = n - (sn + 1) by omega]; rw [hjn] at hfr; exact hfr⟩, by rw [ht]; exact hP9, va_K.moved hW.alike hK, hD9⟩, hS.F ht⟩) hS.2.2 dX12_isFree_50
      · have hlt : j < n := by
          rcases Nat.lt_or_ge j n with q | q
          · exact q
          · exact absurd (nI_le q (by omega)) c_2
        obtain ⟨hp1, hp2⟩ := hPq j hj.1 hlt
        refine lv_iload_n hx hb dX12_isFree_15 rfl (lv_at hl 1 rfl) ?_
        refine lv_iload_n hx hb dX12_isFree_16 rfl (lv_at hl 2 rfl) ?_
        refine lv_ishr hx hb dX12_isFree_17 ?_
        refine lv_topi (fun x_3 e_3 => ?_)
        refine lv_iconst (v := 1) hx hb dX12_isFree_18 (by decide) ?_
        refine lv_iand hx hb dX12_isFree_19 ?_
        refine lv_topi (fun x_4 e_4 => ?_)
        refine lv_iconst (v := 1) hx hb dX12_isFree_20 (by decide) ?_
        refine lv_icmp_ne (tgt := 43) hx hb dX12_isFree_21 (by decide) (fun c_5 => ?_) (fun c_5 => ?_)
        · have hye : bt v j = false := Bool.eq_false_iff.mpr fun q => c_5 (by rw [e_4, e_3, b_bit (by omega), if_pos q])
          have hfr2 : lgS Pq v sn (j + 1 - (sn + 1)) = 0 := by rw [lgS_n hj.1 hye]; exact hfr
          obtain ⟨x_6, e_6⟩ : ∃ y : Int32, y = (nI j) + 1 := ⟨_, rfl⟩
          refine lv_iinc (v := x_6) (lv' := [(2, Value.int x_6), (0, Value.ref g0), (1, Value.int v)]) hx hb dX12_isFree_43 hl (k := 2) rfl (by rw [e_6]; rfl) (by decide) rfl (fun ls hl => ?_)
          have h9 : x_6 = nI (j + 1) := by rw [e_6, nI_1]
          subst h9
          refine lv_goto (tgt := 7) hx hb dX12_isFree_46 (by decide) ?_
          exact ih_7 (j + 1) (ms_lt hlt hfu) (by omega) (hfr2) _ _ _ (hP.sub [0, 1] rfl) (hD.sub [0, 1] (by decide) rfl) hS (lv_sub hl [1, 2, 0] rfl)
        · have hye : bt v j = true := by
            by_cases q : bt v j = true
            · exact q
            · exact absurd (c_5.symm.trans (by rw [e_4, e_3, b_bit (by omega), if_neg q])) (by decide)
          refine lv_aload_n hx hb dX12_isFree_24 rfl (lv_at hl 0 rfl) ?_
          refine va_get (D := (dC, dI)) (ci := 12) (v := Value.ref m_price) (C := RX12) (T := TX12) (N := 33) hx hb hts inX12 hown hK hP 0 rfl rfl 20 (by decide) (hts _ (gw kw_737 rfl)) (fun _ h9 => h9) rfl dX12_isFree_25 ?_
          refine lv_bipush (v := 9) hx hb dX12_isFree_28 (by decide) ?_
          refine lv_aload_n hx hb dX12_isFree_30 rfl (lv_at hl 0 rfl) ?_
          refine va_get (D := (dC, dI)) (ci := 12) (v := Value.int (nI sn)) (C := RX12) (T := TX12) (N := 33) hx hb hts inX12 hown hK hP 0 rfl rfl 7 (by decide) (hts _ (gw kw_724 rfl)) (fun _ h9 => h9) rfl dX12_isFree_31 ?_
          refine lv_imul hx hb dX12_isFree_34 ?_
          refine lv_topi (fun x_7 e_7 => ?_)
          have h9 : x_7 = nI (9 * sn) := by rw [e_7]; exact pk_mul 9 sn
          subst h9
          refine lv_iload_n hx hb dX12_isFree_35 rfl (lv_at hl 2 rfl) ?_
          refine lv_iadd hx hb dX12_isFree_36 ?_
          refine lv_topi (fun x_8 e_8 => ?_)
          have h9 : x_8 = nI (9 * sn + j) := by rw [e_8, nI_add]
          subst h9
          have h_9 : vp_in (nI (9 * sn + j)) 81 := vp_in_nI (by omega) (by omega)
          refine va_iald hx hb hK hP 1 0 rfl rfl h_9 dX12_isFree_37 ?_
          refine lv_topi (fun x_10 e_10 => ?_)
          have h9 : x_10 = nI (Pq j) := by rw [e_10, nI_clamp (by omega)]; exact hp1
          subst h9
          refine lv_if_le (tgt := 43) hx hb dX12_isFree_38 (by decide) (fun c_11 => ?_) (fun c_11 => ?_)
          · have hfr2 : lgS Pq v sn (j + 1 - (sn + 1)) = 0 := by rw [lgS_y hj.1 hye, hfr, Nat.zero_add]; exact Nat.eq_zero_of_not_pos fun q => absurd (nI_lt (a := 0) q (by omega)) (Int32.not_lt.mpr c_11)
            obtain ⟨x_12, e_12⟩ : ∃ y : Int32, y = (nI j) + 1 := ⟨_, rfl⟩
            refine lv_iinc (v := x_12) (lv' := [(2, Value.int x_12), (0, Value.ref g0), (1, Value.int v)]) hx hb dX12_isFree_43 hl (k := 2) rfl (by rw [e_12]; rfl) (by decide) rfl (fun ls hl => ?_)
            have h9 : x_12 = nI (j + 1) := by rw [e_12, nI_1]
            subst h9
            refine lv_goto (tgt := 7) hx hb dX12_isFree_46 (by decide) ?_
            exact ih_7 (j + 1) (ms_lt hlt hfu) (by omega) (hfr2) _ _ _ (hP.sub [0, 1] rfl) (hD.sub [0, 1] (by decide) rfl) hS (lv_sub hl [1, 2, 0] rfl)
          · refine lv_iconst (v := 0) hx hb dX12_isFree_41 (by decide) ?_
            have hpd9 := pd_N (cx := [oX12 g0 m_refused m_kind m_figure m_weight m_got m_setting (nI n) (nI sn) dn m_tape m_letter m_letterAt m_told tp mat stm m_kept him ki crs m_price m_offer m_gets m_yes m_buys m_ends m_carried m_row rm m_keptRow m_likeGets m_likePrice m_ahead, cI aC m_price 81 pf]) hP hD [0, 1] (by decide) rfl
            have hP9 := hpd9.1
            have hD9 := hpd9.2
            refine W.widen (k := 0) (n := 0) (by omega) (by omega) ?_
            exact W.zret (v := 0) hx hb hr rfl (fun t ht hW => ⟨⟨0, (), rfl, Or.inr ⟨rfl, lgS_pos hj.1 hlt hye (Nat.pos_of_ne_zero fun q => absurd (by rw [q]; decide) c_11)⟩, by rw [ht]; exact hP9, va_K.moved hW.alike hK, hD9⟩, hS.F ht⟩) hS.2.2 dX12_isFree_42
  exact lp_7 ((n - (sn + 1)) + 1) (sn + 1) (Nat.lt_succ_self _) (by omega) (by rw [Nat.sub_self]; rfl) _ _ _ (hP.sub [0, 1] rfl) (hD.sub [0, 1] (by decide) rfl) hS (lv_sub hl [1, 2, 0] rfl)

set_option maxHeartbeats 1000000 in
set_option maxRecDepth 100000 in
/-- X12_league -/
theorem c_X12_league (l : Launch) (dC : Nat → ClassId) (dI : Nat → Nat → Nat) (aC : Nat → ClassId) (sz : Nat) (g0 : Nat) (m_refused : Nat) (m_kind : Nat) (m_figure : Nat) (m_weight : Nat) (m_got : Nat) (m_setting : Nat) (m_tape : Nat) (m_letter : Nat) (m_letterAt : Nat) (m_told : Nat) (m_kept : Nat) (m_price : Nat) (m_offer : Nat) (m_gets : Nat) (m_yes : Nat) (m_buys : Nat) (m_ends : Nat) (m_carried : Nat) (m_row : Nat) (m_keptRow : Nat) (m_likeGets : Nat) (m_likePrice : Nat) (m_ahead : Nat) (tp : Int32) (mat : Int32) (stm : Int32) (him : Int32) (ki : Int32) (crs : Int32) (rm : Int32) (n : Nat) (sn : Nat) (dn : Int32) (kf : Nat → Int32) (ff : Nat → Int32) (wf : Nat → Int32) (stf : Nat → Int32) (pf : Nat → Int32) (of : Nat → Int32) (gf : Nat → Int32) (yf : Nat → Int32) (bf : Nat → Int32) (ef : Nat → Int32) (cf : Nat → Int32) (K : Nat → Nat) (F : Nat → Nat) (W0 : Nat → Nat) (S5 : Nat → Nat) (mr : Nat → Int32) (v : Int32) (hev : EVS n sn dn K F W0 S5 kf ff wf stf) : Met l yX12_league (wW yX12_league cX12_league 6 (some .int)) ({ frames := 5, cells := 0, slots := 0, locals := 115 } : Room) (va_Pc [Value.ref g0, Value.int v] (fun U => U.heap.size = sz ∧ va_P (dC, dI) classes [oX12 g0 m_refused m_kind m_figure m_weight m_got m_setting (nI n) (nI sn) dn m_tape m_letter m_letterAt m_told tp mat stm m_kept him ki crs m_price m_offer m_gets m_yes m_buys m_ends m_carried m_row rm m_keptRow m_likeGets m_likePrice m_ahead, cI aC m_kind 9 kf, cI aC m_figure 9 ff, cI aC m_weight 9 wf, cI aC m_setting 5 stf, cI aC m_price 81 pf, cI aC m_offer 81 of, cI aC m_gets 90 gf, cI aC m_yes 9 yf, cI aC m_buys 9 bf, cI aC m_ends 9 ef, cI aC m_carried 9 cf, cI aC m_refused 7 mr] U.heap ∧ va_K (dC, dI) classes (TY aC) U ∧ va_D (fun _ => True) [oX12 g0 m_refused m_kind m_figure m_weight m_got m_setting (nI n) (nI sn) dn m_tape m_letter m_letterAt m_told tp mat stm m_kept him ki crs m_price m_offer m_gets m_yes m_buys m_ends m_carried m_row rm m_keptRow m_likeGets m_likePrice m_ahead, cI aC m_kind 9 kf, cI aC m_figure 9 ff, cI aC m_weight 9 wf, cI aC m_setting 5 stf, cI aC m_price 81 pf, cI aC m_offer 81 of, cI aC m_gets 90 gf, cI aC m_yes 9 yf, cI aC m_buys 9 bf, cI aC m_ends 9 ef, cI aC m_carried 9 cf, cI aC m_refused 7 mr] ∧ NX U)) (va_Qi (fun (r : Int32) (u : (Nat → Int32) × (Nat → Int32) × (Nat → Int32) × (Nat → Int32) × (Nat → Int32) × (Nat → Int32) × (Nat → Int32) × (Nat → Int32)) => match u with | (pf2, of2, gf2, yf2, bf2, ef2, cf2, mr2) => LGR n sn dn K F W0 S5 v r) (fun (u : (Nat → Int32) × (Nat → Int32) × (Nat → Int32) × (Nat → Int32) × (Nat → Int32) × (Nat → Int32) × (Nat → Int32) × (Nat → Int32)) (t : State) => match u with | (pf2, of2, gf2, yf2, bf2, ef2, cf2, mr2) => va_P (dC, dI) classes [oX12 g0 m_refused m_kind m_figure m_weight m_got m_setting (nI n) (nI sn) dn m_tape m_letter m_letterAt m_told tp mat stm m_kept him ki crs m_price m_offer m_gets m_yes m_buys m_ends m_carried m_row rm m_keptRow m_likeGets m_likePrice m_ahead, cI aC m_kind 9 kf, cI aC m_figure 9 ff, cI aC m_weight 9 wf, cI aC m_setting 5 stf, cI aC m_price 81 pf2, cI aC m_offer 81 of2, cI aC m_gets 90 gf2, cI aC m_yes 9 yf2, cI aC m_buys 9 bf2, cI aC m_ends 9 ef2, cI aC m_carried 9 cf2, cI aC m_refused 7 mr2] t.heap ∧ va_K (dC, dI) classes (TY aC) t ∧ va_D (va_A [oX12 g0 m_refused m_kind m_figure m_weight m_got m_setting (nI n) (nI sn) dn m_tape m_letter m_letterAt m_told tp mat stm m_kept him ki crs m_price m_offer m_gets m_yes m_buys m_ends m_carried m_row rm m_keptRow m_likeGets m_likePrice m_ahead, cI aC m_kind 9 kf, cI aC m_figure 9 ff, cI aC m_weight 9 wf, cI aC m_setting 5 stf, cI aC m_price 81 pf, cI aC m_offer 81 of, cI aC m_gets 90 gf, cI aC m_yes 9 yf, cI aC m_buys 9 bf, cI aC m_ends 9 ef, cI aC m_carried 9 cf, cI aC m_refused 7 mr] sz) [oX12 g0 m_refused m_kind m_figure m_weight m_got m_setting (nI n) (nI sn) dn m_tape m_letter m_letterAt m_told tp mat stm m_kept him ki crs m_price m_offer m_gets m_yes m_buys m_ends m_carried m_row rm m_keptRow m_likeGets m_likePrice m_ahead, cI aC m_kind 9 kf, cI aC m_figure 9 ff, cI aC m_weight 9 wf, cI aC m_setting 5 stf, cI aC m_price 81 pf2, cI aC m_offer 81 of2, cI aC m_gets 90 gf2, cI aC m_yes 9 yf2, cI aC m_buys 9 bf2, cI aC m_ends 9 ef2, cI aC m_carried 9 cf2, cI aC m_refused 7 mr2]) (va_A [oX12 g0 m_refused m_kind m_figure m_weight m_got m_setting (nI n) (nI sn) dn m_tape m_letter m_letterAt m_told tp mat stm m_kept him ki crs m_price m_offer m_gets m_yes m_buys m_ends m_carried m_row rm m_keptRow m_likeGets m_likePrice m_ahead, cI aC m_kind 9 kf, cI aC m_figure 9 ff, cI aC m_weight 9 wf, cI aC m_setting 5 stf, cI aC m_price 81 pf, cI aC m_offer 81 of, cI aC m_gets 90 gf, cI aC m_yes 9 yf, cI aC m_buys 9 bf, cI aC m_ends 9 ef, cI aC m_carried 9 cf, cI aC m_refused 7 mr] sz)) 0 0 (va_A [oX12 g0 m_refused m_kind m_figure m_weight m_got m_setting (nI n) (nI sn) dn m_tape m_letter m_letterAt m_told tp mat stm m_kept him ki crs m_price m_offer m_gets m_yes m_buys m_ends m_carried m_row rm m_keptRow m_likeGets m_likePrice m_ahead, cI aC m_kind 9 kf, cI aC m_figure 9 ff, cI aC m_weight 9 wf, cI aC m_setting 5 stf, cI aC m_price 81 pf, cI aC m_offer 81 of, cI aC m_gets 90 gf, cI aC m_yes 9 yf, cI aC m_buys 9 bf, cI aC m_ends 9 ef, cI aC m_carried 9 cf, cI aC m_refused 7 mr] sz) := by
  refine Met.ofW (cc := cX12_league) (maxL := 6) (ret := (some .int)) (by decide) rfl ?_
  intro p e s m args below meth c s₁ B hml hv
  obtain ⟨rfl, hsz, hP, hK, hD0, hN⟩ := hv
  have hx := B.exec
  have hb := B.bytes
  have hr := B.returns
  have hts0 := atoms_spec (ws := (wW yX12_league cX12_league 6 (some .int))) B.pre
  have hts : ∀ w9 ∈ lw_G, w9.before ([Value.ref g0, Value.int v] : List Value).toArray s = true := fun w9 h9 => hts0 w9 (List.mem_cons_of_mem _ h9)
  have hown : s.vm.findClass RX12 = some m.cls := findClass_of_methodNamed (x := yX12_league) B.named
  have hlocks := B.notSynchronized
  subst hsz
  have hD := hD0.self (sz := s.heap.size)
  generalize hAe : va_A [oX12 g0 m_refused m_kind m_figure m_weight m_got m_setting (nI n) (nI sn) dn m_tape m_letter m_letterAt m_told tp mat stm m_kept him ki crs m_price m_offer m_gets m_yes m_buys m_ends m_carried m_row rm m_keptRow m_likeGets m_likePrice m_ahead, cI aC m_kind 9 kf, cI aC m_figure 9 ff, cI aC m_weight 9 wf, cI aC m_setting 5 stf, cI aC m_price 81 pf, cI aC m_offer 81 of, cI aC m_gets 90 gf, cI aC m_yes 9 yf, cI aC m_buys 9 bf, cI aC m_ends 9 ef, cI aC m_carried 9 cf, cI aC m_refused 7 mr] s.heap.size = A at hD ⊢
  have hA : ∀ q : Nat, s.heap.size ≤ q → A q := fun q h => by rw [← hAe]; exact Or.inr h
  obtain ⟨H, hHe⟩ : ∃ H : Heap, H = s.heap := ⟨_, rfl⟩
  have hS : va_S A s.heap H [] := by rw [hHe]; exact va_S.rf
  have hP : va_P (dC, dI) classes [oX12 g0 m_refused m_kind m_figure m_weight m_got m_setting (nI n) (nI sn) dn m_tape m_letter m_letterAt m_told tp mat stm m_kept him ki crs m_price m_offer m_gets m_yes m_buys m_ends m_carried m_row rm m_keptRow m_likeGets m_likePrice m_ahead, cI aC m_kind 9 kf, cI aC m_figure 9 ff, cI aC m_weight 9 wf, cI aC m_setting 5 stf, cI aC m_price 81 pf, cI aC m_offer 81 of, cI aC m_gets 90 gf, cI aC m_yes 9 yf, cI aC m_buys 9 bf, cI aC m_ends 9 ef, cI aC m_carried 9 cf, cI aC m_refused 7 mr] H := by rw [hHe]; exact hP
  have hl := lv_entry ([Value.ref g0, Value.int v]) (n := 6) (Nat.le_of_ble_eq_true rfl)
  rw [lg_entry_eq]
  generalize (lg_sl ([Value.ref g0, Value.int v]) ++ List.replicate (6 - (lg_sl ([Value.ref g0, Value.int v])).length) Slot.unset).toArray = ls at hl ⊢
  have hl : lv_has ls 6 [(0, Value.ref g0), (1, Value.int v)] := hl
  rw [← hHe]
  have hn8 := EVS_n hev
  have hp8 := p28 hn8
  have hs1 : stf 1 = nI (S5 1) := hev.2.1 1 (by omega)
  have hS0 := hev.1.2.1
  have hs9 := w_le (W := W0) (a := sn) (k := n - sn) (fun j q => ((HW_of hev.1).2 j q).2) (by have := sn_le hev; omega) hn8
  refine lv_aload_n hx hb dX12_league_0 rfl (lv_at hl 0 rfl) ?_
  have hpd9 := pdf_N (cx := [oX12 g0 m_refused m_kind m_figure m_weight m_got m_setting (nI n) (nI sn) dn m_tape m_letter m_letterAt m_told tp mat stm m_kept him ki crs m_price m_offer m_gets m_yes m_buys m_ends m_carried m_row rm m_keptRow m_likeGets m_likePrice m_ahead]) hP hD hS hA [0] (by decide) rfl
  have hPc := hpd9.1
  have hDc := hpd9.2.1
  have hFc := hpd9.2.2
  clear hpd9
  refine va_calli (va_runV (As := []) (rest := []) ⟨hx, hb, hml, hown, hts⟩ (c_X12_isOver l dC dI aC H.size g0 m_refused m_kind m_figure m_weight m_got m_setting m_tape m_letter m_letterAt m_told m_kept m_price m_offer m_gets m_yes m_buys m_ends m_carried m_row m_keptRow m_likeGets m_likePrice m_ahead (nI n) (nI sn) dn tp mat stm him ki crs rm ) ⟨(callB_of 0 hts (gG kw_994) rfl rfl rfl (hts _ (gw kw_13 rfl)) (hts _ (gw kw_991 rfl)) hd_X12_isOver ⟨Nat.le_of_ble_eq_true rfl, Nat.le_of_ble_eq_true rfl⟩), (hts _ (gw kw_993 rfl)), (hts _ (gw ks_58 rfl))⟩ ⟨fb_std, va_recv (q := (RX12, TX12, 33)) hK hPc (ci := 12) (q0 := 0) rfl rfl, pre_std hPc hK hDc hN⟩ rfl rfl hl.1 rfl (lv_room (Nat.le_of_ble_eq_true rfl)) dX12_league_1 ⟨Nat.le_of_ble_eq_true rfl, Nat.le_of_ble_eq_true rfl⟩) hS (fun q _ h => hFc q h) hFc (fun x_1 u9 t9 H1 locs ht hvm hw_1 hB hz1 hk1 hS => ?_)
  obtain ⟨hP1, hK1, hD1⟩ := hB
  rw [ht] at hP1
  clear hK1
  try dsimp only at hw_1
  have hpd9 : PDx (dC, dI) classes A H1 [cI aC m_kind 9 kf, cI aC m_figure 9 ff, cI aC m_weight 9 wf, cI aC m_setting 5 stf, cI aC m_price 81 pf, cI aC m_offer 81 of, cI aC m_gets 90 gf, cI aC m_yes 9 yf, cI aC m_buys 9 bf, cI aC m_ends 9 ef, cI aC m_carried 9 cf, cI aC m_refused 7 mr, oX12 g0 m_refused m_kind m_figure m_weight m_got m_setting (nI n) (nI sn) dn m_tape m_letter m_letterAt m_told tp mat stm m_kept him ki crs m_price m_offer m_gets m_yes m_buys m_ends m_carried m_row rm m_keptRow m_likeGets m_likePrice m_ahead] := jn_N (wr := [cI aC m_kind 9 kf, cI aC m_figure 9 ff, cI aC m_weight 9 wf, cI aC m_setting 5 stf, cI aC m_price 81 pf, cI aC m_offer 81 of, cI aC m_gets 90 gf, cI aC m_yes 9 yf, cI aC m_buys 9 bf, cI aC m_ends 9 ef, cI aC m_carried 9 cf, cI aC m_refused 7 mr]) hFc hk1 hP1 hD1 hP hD [0] [1, 2, 3, 4, 5, 6, 7, 8, 9, 10, 11, 12] rfl rfl (by decide) (by decide)
  have hP := hpd9.1
  have hD := hpd9.2
  clear hpd9
  generalize H1 = H at hP hS ⊢
  clear hPc hDc hFc hz1 hk1 hP1 hD1 ht hvm
  have hz_1 := hw_1
  refine lv_if_eq (tgt := 14) hx hb dX12_league_4 (by decide) (fun c_2 => ?_) (fun c_2 => ?_)
  · have hov := ovm_n hz_1 c_2
    have hsn := sn_lt hev hov
    refine lv_aload_n hx hb dX12_league_14 rfl (lv_at hl 0 rfl) ?_
    refine lv_aload_n hx hb dX12_league_15 rfl (lv_at hl 0 rfl) ?_
    refine va_get (D := (dC, dI)) (ci := 12) (v := Value.int (nI sn)) (C := RX12) (T := TX12) (N := 33) hx hb hts inX12 hown hK hP 12 rfl rfl 7 (by decide) (hts _ (gw kw_724 rfl)) (fun _ h9 => h9) rfl dX12_league_16 ?_
    have hpd9 := pdf_N (cx := [oX12 g0 m_refused m_kind m_figure m_weight m_got m_setting (nI n) (nI sn) dn m_tape m_letter m_letterAt m_told tp mat stm m_kept him ki crs m_price m_offer m_gets m_yes m_buys m_ends m_carried m_row rm m_keptRow m_likeGets m_likePrice m_ahead]) hP hD hS hA [12] (by decide) rfl
    have hPc := hpd9.1
    have hDc := hpd9.2.1
    have hFc := hpd9.2.2
    clear hpd9
    refine va_calli (va_runV (As := [Value.int (nI sn)]) (rest := []) ⟨hx, hb, hml, hown, hts⟩ (c_X12_leftFrom l dC dI aC H.size g0 m_refused m_kind m_figure m_weight m_got m_setting m_tape m_letter m_letterAt m_told m_kept m_price m_offer m_gets m_yes m_buys m_ends m_carried m_row m_keptRow m_likeGets m_likePrice m_ahead (nI sn) dn tp mat stm him ki crs rm n sn (by omega)) ⟨(callB_of 1 hts (gG kw_922) rfl rfl rfl (hts _ (gw kw_13 rfl)) (hts _ (gw kw_919 rfl)) hd_X12_leftFrom ⟨Nat.le_of_ble_eq_true rfl, Nat.le_of_ble_eq_true rfl⟩), (hts _ (gw kw_921 rfl)), (hts _ (gw ks_50 rfl))⟩ ⟨fb_std, va_recv (q := (RX12, TX12, 33)) hK hPc (ci := 12) (q0 := 0) rfl rfl, pre_std hPc hK hDc hN⟩ rfl rfl hl.1 rfl (lv_room (Nat.le_of_ble_eq_true rfl)) dX12_league_19 ⟨Nat.le_of_ble_eq_true rfl, Nat.le_of_ble_eq_true rfl⟩) hS (fun q _ h => hFc q h) hFc (fun x_3 u9 t9 H1 locs ht hvm hw_3 hB hz1 hk1 hS => ?_)
    obtain ⟨hP1, hK1, hD1⟩ := hB
    rw [ht] at hP1
    clear hK1
    try dsimp only at hw_3
    have hpd9 : PDx (dC, dI) classes A H1 [cI aC m_kind 9 kf, cI aC m_figure 9 ff, cI aC m_weight 9 wf, cI aC m_setting 5 stf, cI aC m_price 81 pf, cI aC m_offer 81 of, cI aC m_gets 90 gf, cI aC m_yes 9 yf, cI aC m_buys 9 bf, cI aC m_ends 9 ef, cI aC m_carried 9 cf, cI aC m_refused 7 mr, oX12 g0 m_refused m_kind m_figure m_weight m_got m_setting (nI n) (nI sn) dn m_tape m_letter m_letterAt m_told tp mat stm m_kept him ki crs m_price m_offer m_gets m_yes m_buys m_ends m_carried m_row rm m_keptRow m_likeGets m_likePrice m_ahead] := jn_N (wr := [cI aC m_kind 9 kf, cI aC m_figure 9 ff, cI aC m_weight 9 wf, cI aC m_setting 5 stf, cI aC m_price 81 pf, cI aC m_offer 81 of, cI aC m_gets 90 gf, cI aC m_yes 9 yf, cI aC m_buys 9 bf, cI aC m_ends 9 ef, cI aC m_carried 9 cf, cI aC m_refused 7 mr]) hFc hk1 hP1 hD1 hP hD [12] [0, 1, 2, 3, 4, 5, 6, 7, 8, 9, 10, 11] rfl rfl (by decide) (by decide)
    have hP := hpd9.1
    have hD := hpd9.2
    clear hpd9
    generalize H1 = H at hP hS ⊢
    clear hPc hDc hFc hz1 hk1 hP1 hD1 ht hvm
    have hlf := hw_3
    refine lv_iconst (v := 1) hx hb dX12_league_22 (by decide) ?_
    refine lv_aload_n hx hb dX12_league_23 rfl (lv_at hl 0 rfl) ?_
    refine va_get (D := (dC, dI)) (ci := 12) (v := Value.int (nI sn)) (C := RX12) (T := TX12) (N := 33) hx hb hts inX12 hown hK hP 12 rfl rfl 7 (by decide) (hts _ (gw kw_724 rfl)) (fun _ h9 => h9) rfl dX12_league_24 ?_
    refine lv_ishl hx hb dX12_league_27 ?_
    refine lv_topi (fun x_4 e_4 => ?_)
    refine lv_iconst (v := -1) hx hb dX12_league_28 (by decide) ?_
    refine lv_ixor hx hb dX12_league_29 ?_
    refine lv_topi (fun x_5 e_5 => ?_)
    refine lv_iand hx hb dX12_league_30 ?_
    refine lv_topi (fun x_6 e_6 => ?_)
    refine lv_istore_n (lv' := [(2, Value.int x_6), (0, Value.ref g0), (1, Value.int v)]) hx hb dX12_league_31 rfl hl (by decide) rfl (fun ls hl => ?_)
    have hyg : ∀ b, b < 32 → bt x_6 b = decide (sn < b ∧ b < n) := fun b hb => by rw [e_6, e_5, e_4]; exact yng_bits ⟨hsn, hn8⟩ hlf b hb
    refine lv_iload_n hx hb dX12_league_32 rfl (lv_at hl 2 rfl) ?_
    refine lv_if_lt (tgt := 52) hx hb dX12_league_33 (by decide) (fun c_7 => ?_) (fun c_7 => ?_)
    · refine lv_aload_n hx hb dX12_league_52 rfl (lv_at hl 1 rfl) ?_
      refine lv_iconst (v := -1) hx hb dX12_league_53 (by decide) ?_
      have hpd9 := pdf_N (cx := [oX12 g0 m_refused m_kind m_figure m_weight m_got m_setting (nI n) (nI sn) dn m_tape m_letter m_letterAt m_told tp mat stm m_kept him ki crs m_price m_offer m_gets m_yes m_buys m_ends m_carried m_row rm m_keptRow m_likeGets m_likePrice m_ahead, cI aC m_refused 7 mr]) hP hD hS hA [12, 11] (by decide) rfl
      have hPc := hpd9.1
      have hDc := hpd9.2.1
      have hFc := hpd9.2.2
      clear hpd9
      refine va_calli (va_runV (As := [Value.int (-1)]) (rest := []) ⟨hx, hb, hml, hown, hts⟩ (c_X12_no l dC dI aC H.size g0 m_refused m_kind m_figure m_weight m_got m_setting m_tape m_letter m_letterAt m_told m_kept m_price m_offer m_gets m_yes m_buys m_ends m_carried m_row m_keptRow m_likeGets m_likePrice m_ahead (nI n) (nI sn) dn tp mat stm him ki crs rm (-1) 1 mr (by decide) (by unfold vp_in; decide)) ⟨(callB_of 1 hts (gG kw_827) rfl rfl rfl (hts _ (gw kw_13 rfl)) (hts _ (gw kw_824 rfl)) hd_X12_no ⟨Nat.le_of_ble_eq_true rfl, Nat.le_of_ble_eq_true rfl⟩), (hts _ (gw kw_826 rfl)), (hts _ (gw ks_35 rfl))⟩ ⟨fb_std, va_recv (q := (RX12, TX12, 33)) hK hPc (ci := 12) (q0 := 0) rfl rfl, pre_std hPc hK hDc hN⟩ rfl rfl hl.1 rfl (lv_room (Nat.le_of_ble_eq_true rfl)) dX12_league_54 ⟨Nat.le_of_ble_eq_true rfl, Nat.le_of_ble_eq_true rfl⟩) hS (fun q _ h => hFc q h) hFc (fun x_8 u9 t9 H1 locs ht hvm hw_8 hB hz1 hk1 hS => ?_)
      obtain ⟨u_9, rfl⟩ : ∃ z, z = u9 := ⟨_, rfl⟩
      obtain ⟨hP1, hK1, hD1⟩ := hB
      rw [ht] at hP1
      clear hK1
      try dsimp only at hw_8
      have hpd9 : PDx (dC, dI) classes A H1 [cI aC m_kind 9 kf, cI aC m_figure 9 ff, cI aC m_weight 9 wf, cI aC m_setting 5 stf, cI aC m_price 81 pf, cI aC m_offer 81 of, cI aC m_gets 90 gf, cI aC m_yes 9 yf, cI aC m_buys 9 bf, cI aC m_ends 9 ef, cI aC m_carried 9 cf, oX12 g0 m_refused m_kind m_figure m_weight m_got m_setting (nI n) (nI sn) dn m_tape m_letter m_letterAt m_told tp mat stm m_kept him ki crs m_price m_offer m_gets m_yes m_buys m_ends m_carried m_row rm m_keptRow m_likeGets m_likePrice m_ahead, cI aC m_refused 7 u_9] := jn_N (wr := [cI aC m_kind 9 kf, cI aC m_figure 9 ff, cI aC m_weight 9 wf, cI aC m_setting 5 stf, cI aC m_price 81 pf, cI aC m_offer 81 of, cI aC m_gets 90 gf, cI aC m_yes 9 yf, cI aC m_buys 9 bf, cI aC m_ends 9 ef, cI aC m_carried 9 cf]) hFc hk1 hP1 hD1 hP hD [12, 11] [0, 1, 2, 3, 4, 5, 6, 7, 8, 9, 10] rfl rfl (by decide) (by decide)
      have hP := hpd9.1
      have hD := hpd9.2
      clear hpd9
      generalize H1 = H at hP hS ⊢
      clear hPc hDc hFc hz1 hk1 hP1 hD1 ht hvm
      obtain ⟨hv9, -⟩ := hw_8
      have hpd9 := pd_N (cx := [oX12 g0 m_refused m_kind m_figure m_weight m_got m_setting (nI n) (nI sn) dn m_tape m_letter m_letterAt m_told tp mat stm m_kept him ki crs m_price m_offer m_gets m_yes m_buys m_ends m_carried m_row rm m_keptRow m_likeGets m_likePrice m_ahead, cI aC m_kind 9 kf, cI aC m_figure 9 ff, cI aC m_weight 9 wf, cI aC m_setting 5 stf, cI aC m_price 81 pf, cI aC m_offer 81 of, cI aC m_gets 90 gf, cI aC m_yes 9 yf, cI aC m_buys 9 bf, cI aC m_ends 9 ef, cI aC m_carried 9 cf, cI aC m_refused 7 u_9]) hP hD [11, 0, 1, 2, 3, 4, 5, 6, 7, 8, 9, 10, 12] (by decide) rfl
      have hP9 := hpd9.1
      have hD9 := hpd9.2
      refine W.widen (k := 0) (n := 0) (by omega) (by omega) ?_
      exact W.iret (v := x_8) hx hb hr (fun t ht hW => ⟨⟨x_8, (pf, of, gf, yf, bf, ef, cf, u_9), rfl, by rw [hv9]; exact LGR_m hov (fun q => by obtain ⟨x9, h1, h2⟩ := lg_nat (fun z hz => by have := q.1 z hz; omega); exact absurd c_7 (by rw [h2]; exact nI_pos (by omega))), by rw [ht]; exact hP9, va_K.moved hW.alike hK, hD9⟩, hS.F ht⟩) hS.2.2 dX12_league_57
    · refine lv_iload_n hx hb dX12_league_36 rfl (lv_at hl 2 rfl) ?_
      refine lv_iload_n hx hb dX12_league_37 rfl (lv_at hl 0 rfl) ?_
      refine lv_iconst (v := -1) hx hb dX12_league_38 (by decide) ?_
      refine lv_ixor hx hb dX12_league_39 ?_
      refine lv_topi (fun x_10 e_10 => ?_)
      refine lv_iand hx hb dX12_league_40 ?_
      refine lv_topi (fun x_11 e_11 => ?_)
      refine lv_if_ne (tgt := 52) hx hb dX12_league_41 (by decide) (fun c_12 => ?_) (fun c_12 => ?_)
      · refine lv_aload_n hx hb dX12_league_52 rfl (lv_at hl 1 rfl) ?_
        refine lv_iconst (v := -1) hx hb dX12_league_53 (by decide) ?_
        have hpd9 := pdf_N (cx := [oX12 g0 m_refused m_kind m_figure m_weight m_got m_setting (nI n) (nI sn) dn m_tape m_letter m_letterAt m_told tp mat stm m_kept him ki crs m_price m_offer m_gets m_yes m_buys m_ends m_carried m_row rm m_keptRow m_likeGets m_likePrice m_ahead, cI aC m_refused 7 mr]) hP hD hS hA [12, 11] (by decide) rfl
        have hPc := hpd9.1
        have hDc := hpd9.2.1
        have hFc := hpd9.2.2
        clear hpd9
        refine va_calli (va_runV (As := [Value.int (-1)]) (rest := []) ⟨hx, hb, hml, hown, hts⟩ (c_X12_no l dC dI aC H.size g0 m_refused m_kind m_figure m_weight m_got m_setting m_tape m_letter m_letterAt m_told m_kept m_price m_offer m_gets m_yes m_buys m_ends m_carried m_row m_keptRow m_likeGets m_likePrice m_ahead (nI n) (nI sn) dn tp mat stm him ki crs rm (-1) 1 mr (by decide) (by unfold vp_in; decide)) ⟨(callB_of 1 hts (gG kw_827) rfl rfl rfl (hts _ (gw kw_13 rfl)) (hts _ (gw kw_824 rfl)) hd_X12_no ⟨Nat.le_of_ble_eq_true rfl, Nat.le_of_ble_eq_true rfl⟩), (hts _ (gw kw_826 rfl)), (hts _ (gw ks_35 rfl))⟩ ⟨fb_std, va_recv (q := (RX12, TX12, 33)) hK hPc (ci := 12) (q0 := 0) rfl rfl, pre_std hPc hK hDc hN⟩ rfl rfl hl.1 rfl (lv_room (Nat.le_of_ble_eq_true rfl)) dX12_league_54 ⟨Nat.le_of_ble_eq_true rfl, Nat.le_of_ble_eq_true rfl⟩) hS (fun q _ h => hFc q h) hFc (fun x_13 u9 t9 H1 locs ht hvm hw_13 hB hz1 hk1 hS => ?_)
        obtain ⟨u_14, rfl⟩ : ∃ z, z = u9 := ⟨_, rfl⟩
        obtain ⟨hP1, hK1, hD1⟩ := hB
        rw [ht] at hP1
        clear hK1
        try dsimp only at hw_13
        have hpd9 : PDx (dC, dI) classes A H1 [cI aC m_kind 9 kf, cI aC m_figure 9 ff, cI aC m_weight 9 wf, cI aC m_setting 5 stf, cI aC m_price 81 pf, cI aC m_offer 81 of, cI aC m_gets 90 gf, cI aC m_yes 9 yf, cI aC m_buys 9 bf, cI aC m_ends 9 ef, cI aC m_carried 9 cf, oX12 g0 m_refused m_kind m_figure m_weight m_got m_setting (nI n) (nI sn) dn m_tape m_letter m_letterAt m_told tp mat stm m_kept him ki crs m_price m_offer m_gets m_yes m_buys m_ends m_carried m_row rm m_keptRow m_likeGets m_likePrice m_ahead, cI aC m_refused 7 u_14] := jn_N (wr := [cI aC m_kind 9 kf, cI aC m_figure 9 ff, cI aC m_weight 9 wf, cI aC m_setting 5 stf, cI aC m_price 81 pf, cI aC m_offer 81 of, cI aC m_gets 90 gf, cI aC m_yes 9 yf, cI aC m_buys 9 bf, cI aC m_ends 9 ef, cI aC m_carried 9 cf]) hFc hk1 hP1 hD1 hP hD [12, 11] [0, 1, 2, 3, 4, 5, 6, 7, 8, 9, 10] rfl rfl (by decide) (by decide)
        have hP := hpd9.1
        have hD := hpd9.2
        clear hpd9
        generalize H1 = H at hP hS ⊢
        clear hPc hDc hFc hz1 hk1 hP1 hD1 ht hvm
        obtain ⟨hv9, -⟩ := hw_13
        have hpd9 := pd_N (cx := [oX12 g0 m_refused m_kind m_figure m_weight m_got m_setting (nI n) (nI sn) dn m_tape m_letter m_letterAt m_told tp mat stm m_kept him ki crs m_price m_offer m_gets m_yes m_buys m_ends m_carried m_row rm m_keptRow m_likeGets m_likePrice m_ahead, cI aC m_kind 9 kf, cI aC m_figure 9 ff, cI aC m_weight 9 wf, cI aC m_setting 5 stf, cI aC m_price 81 pf, cI aC m_offer 81 of, cI aC m_gets 90 gf, cI aC m_yes 9 yf, cI aC m_buys 9 bf, cI aC m_ends 9 ef, cI aC m_carried 9 cf, cI aC m_refused 7 u_14]) hP hD [11, 0, 1, 2, 3, 4, 5, 6, 7, 8, 9, 10, 12] (by decide) rfl
        have hP9 := hpd9.1
        have hD9 := hpd9.2
        refine W.widen (k := 0) (n := 0) (by omega) (by omega) ?_
        exact W.iret (v := x_13) hx hb hr (fun t ht hW => ⟨⟨x_13, (pf, of, gf, yf, bf, ef, cf, u_14), rfl, by rw [hv9]; exact LGR_m hov (fun q => c_12 (by rw [e_11, e_10]; exact (lg_mask hyg).mpr q.1)), by rw [ht]; exact hP9, va_K.moved hW.alike hK, hD9⟩, hS.F ht⟩) hS.2.2 dX12_league_57
      · have hM1 : ∀ q, bt v q = true → sn < q ∧ q < n := (lg_mask hyg).mp (by rw [← e_10, ← e_11]; exact c_12)
        have h31 := lg_31 (v := v) (fun q hq => by have := hM1 q hq; omega)
        have hnl := LGN_le (v := v)
        refine lv_iload_n hx hb dX12_league_44 rfl (lv_at hl 2 rfl) ?_
        have hpd9 := pdf_N (cx := []) hP hD hS hA [] (by decide) rfl
        have hPc := hpd9.1
        have hDc := hpd9.2.1
        have hFc := hpd9.2.2
        clear hpd9
        refine va_calli (va_runS (As := [Value.int v]) (rest := []) ⟨hx, hb, hml, hown, hts⟩ (c_X12_bits l dC dI aC H.size v ) ⟨(callB_of 1 hts (gG kw_1069) rfl rfl rfl (hts _ (gw kw_13 rfl)) (hts _ (gw kw_1067 rfl)) hd_X12_bits ⟨Nat.le_of_ble_eq_true rfl, Nat.le_of_ble_eq_true rfl⟩), (hts _ (gw kw_1068 rfl))⟩ ⟨fb_std, pre_std hPc hK hDc hN⟩ rfl rfl hl.1 rfl (lv_room (Nat.le_of_ble_eq_true rfl)) dX12_league_45 ⟨Nat.le_of_ble_eq_true rfl, Nat.le_of_ble_eq_true rfl⟩) hS (fun q _ h => hFc q h) hFc (fun x_15 u9 t9 H1 locs ht hvm hw_15 hB hz1 hk1 hS => ?_)
        obtain ⟨hP1, hK1, hD1⟩ := hB
        rw [ht] at hP1
        clear hK1
        try dsimp only at hw_15
        have hpd9 : PDx (dC, dI) classes A H1 [cI aC m_kind 9 kf, cI aC m_figure 9 ff, cI aC m_weight 9 wf, cI aC m_setting 5 stf, cI aC m_price 81 pf, cI aC m_offer 81 of, cI aC m_gets 90 gf, cI aC m_yes 9 yf, cI aC m_buys 9 bf, cI aC m_ends 9 ef, cI aC m_carried 9 cf, cI aC m_refused 7 mr, oX12 g0 m_refused m_kind m_figure m_weight m_got m_setting (nI n) (nI sn) dn m_tape m_letter m_letterAt m_told tp mat stm m_kept him ki crs m_price m_offer m_gets m_yes m_buys m_ends m_carried m_row rm m_keptRow m_likeGets m_likePrice m_ahead] := jn_N (wr := [cI aC m_kind 9 kf, cI aC m_figure 9 ff, cI aC m_weight 9 wf, cI aC m_setting 5 stf, cI aC m_price 81 pf, cI aC m_offer 81 of, cI aC m_gets 90 gf, cI aC m_yes 9 yf, cI aC m_buys 9 bf, cI aC m_ends 9 ef, cI aC m_carried 9 cf, cI aC m_refused 7 mr, oX12 g0 m_refused m_kind m_figure m_weight m_got m_setting (nI n) (nI sn) dn m_tape m_letter m_letterAt m_told tp mat stm m_kept him ki crs m_price m_offer m_gets m_yes m_buys m_ends m_carried m_row rm m_keptRow m_likeGets m_likePrice m_ahead]) hFc hk1 hP1 hD1 hP hD [] [0, 1, 2, 3, 4, 5, 6, 7, 8, 9, 10, 11, 12] rfl rfl (by decide) (by decide)
        have hP := hpd9.1
        have hD := hpd9.2
        clear hpd9
        generalize H1 = H at hP hS ⊢
        clear hPc hDc hFc hz1 hk1 hP1 hD1 ht hvm
        have hbi := hw_15
        refine lv_iconst (v := 2) hx hb dX12_league_48 (by decide) ?_
        refine lv_icmp_ge (tgt := 58) hx hb dX12_league_49 (by decide) (fun c_16 => ?_) (fun c_16 => ?_)
        · have hM : LGM n sn v := ⟨hM1, by
            have h9 := c_16
            rw [hbi, h31] at h9
            exact (nI_leI (a := 2) (by omega) (by omega)).mp h9⟩
          refine lv_aload_n hx hb dX12_league_58 rfl (lv_at hl 1 rfl) ?_
          have hpd9 := pdf_N (cx := [oX12 g0 m_refused m_kind m_figure m_weight m_got m_setting (nI n) (nI sn) dn m_tape m_letter m_letterAt m_told tp mat stm m_kept him ki crs m_price m_offer m_gets m_yes m_buys m_ends m_carried m_row rm m_keptRow m_likeGets m_likePrice m_ahead, cI aC m_kind 9 kf, cI aC m_figure 9 ff, cI aC m_weight 9 wf, cI aC m_setting 5 stf, cI aC m_price 81 pf, cI aC m_offer 81 of, cI aC m_gets 90 gf, cI aC m_yes 9 yf, cI aC m_buys 9 bf, cI aC m_ends 9 ef, cI aC m_carried 9 cf]) hP hD hS hA [12, 0, 1, 2, 3, 4, 5, 6, 7, 8, 9, 10] (by decide) rfl
          have hPc := hpd9.1
          have hDc := hpd9.2.1
          have hFc := hpd9.2.2
          clear hpd9
          refine va_callv (va_runV (As := []) (rest := []) ⟨hx, hb, hml, hown, hts⟩ (c_X12_solvesAll l dC dI aC H.size g0 m_refused m_kind m_figure m_weight m_got m_setting m_tape m_letter m_letterAt m_told m_kept m_price m_offer m_gets m_yes m_buys m_ends m_carried m_row m_keptRow m_likeGets m_likePrice m_ahead (nI sn) dn tp mat stm him ki crs rm n kf ff wf stf pf of gf yf bf ef cf K F W0 (S5 0) (PO n K F W0 S5) (hev.1) (PO_cl hev)) ⟨(callB_of 0 hts (gG kw_896) rfl rfl rfl (hts _ (gw kw_13 rfl)) (hts _ (gw kw_893 rfl)) hd_X12_solvesAll ⟨Nat.le_of_ble_eq_true rfl, Nat.le_of_ble_eq_true rfl⟩), (hts _ (gw kw_895 rfl)), (hts _ (gw ks_45 rfl))⟩ ⟨fb_std, va_recv (q := (RX12, TX12, 33)) hK hPc (ci := 12) (q0 := 0) rfl rfl, pre_std hPc hK hDc hN⟩ rfl rfl hl.1 rfl (lv_room (Nat.le_of_ble_eq_true rfl)) dX12_league_59 ⟨Nat.le_of_ble_eq_true rfl, Nat.le_of_ble_eq_true rfl⟩) hS (fun q _ h => hFc q h) hFc (fun u9 t9 H1 locs ht hvm hw_17 hB hz1 hk1 hS => ?_)
          obtain ⟨u_18, u_19, u_20, u_21, u_22, u_23, u_24⟩ := u9
          obtain ⟨hP1, hK1, hD1⟩ := hB
          rw [ht] at hP1
          clear hK1
          try dsimp only at hw_17
          have hpd9 : PDx (dC, dI) classes A H1 [cI aC m_refused 7 mr, oX12 g0 m_refused m_kind m_figure m_weight m_got m_setting (nI n) (nI sn) dn m_tape m_letter m_letterAt m_told tp mat stm m_kept him ki crs m_price m_offer m_gets m_yes m_buys m_ends m_carried m_row rm m_keptRow m_likeGets m_likePrice m_ahead, cI aC m_kind 9 kf, cI aC m_figure 9 ff, cI aC m_weight 9 wf, cI aC m_setting 5 stf, cI aC m_price 81 u_18, cI aC m_offer 81 u_19, cI aC m_gets 90 u_20, cI aC m_yes 9 u_21, cI aC m_buys 9 u_22, cI aC m_ends 9 u_23, cI aC m_carried 9 u_24] := jn_N (wr := [cI aC m_refused 7 mr]) hFc hk1 hP1 hD1 hP hD [12, 0, 1, 2, 3, 4, 5, 6, 7, 8, 9, 10] [11] rfl rfl (by decide) (by decide)
          have hP := hpd9.1
          have hD := hpd9.2
          clear hpd9
          generalize H1 = H at hP hS ⊢
          clear hPc hDc hFc hz1 hk1 hP1 hD1 ht hvm
          have hm1 := hw_17
          refine lv_aload_n hx hb dX12_league_62 rfl (lv_at hl 1 rfl) ?_
          refine lv_aload_n hx hb dX12_league_63 rfl (lv_at hl 1 rfl) ?_
          refine va_get (D := (dC, dI)) (ci := 12) (v := Value.int (nI sn)) (C := RX12) (T := TX12) (N := 33) hx hb hts inX12 hown hK hP 1 rfl rfl 7 (by decide) (hts _ (gw kw_724 rfl)) (fun _ h9 => h9) rfl dX12_league_64 ?_
          have hpd9 := pdf_N (cx := [oX12 g0 m_refused m_kind m_figure m_weight m_got m_setting (nI n) (nI sn) dn m_tape m_letter m_letterAt m_told tp mat stm m_kept him ki crs m_price m_offer m_gets m_yes m_buys m_ends m_carried m_row rm m_keptRow m_likeGets m_likePrice m_ahead, cI aC m_price 81 u_18]) hP hD hS hA [1, 6] (by decide) rfl
          have hPc := hpd9.1
          have hDc := hpd9.2.1
          have hFc := hpd9.2.2
          clear hpd9
          refine va_calli (va_runV (As := [Value.int (nI sn)]) (rest := []) ⟨hx, hb, hml, hown, hts⟩ (c_X12_unbought l dC dI aC H.size g0 m_refused m_kind m_figure m_weight m_got m_setting m_tape m_letter m_letterAt m_told m_kept m_price m_offer m_gets m_yes m_buys m_ends m_carried m_row m_keptRow m_likeGets m_likePrice m_ahead (nI sn) dn tp mat stm him ki crs rm n u_18 (zP (PO n K F W0 S5) sn) sn (by omega) (fun q h1 h2 => ⟨(hm1 sn hsn).1 q h1 h2, zP_le (PO_cl hev) (HF_of hev.1) h1 h2⟩)) ⟨(callB_of 1 hts (gG kw_926) rfl rfl rfl (hts _ (gw kw_13 rfl)) (hts _ (gw kw_923 rfl)) hd_X12_unbought ⟨Nat.le_of_ble_eq_true rfl, Nat.le_of_ble_eq_true rfl⟩), (hts _ (gw kw_925 rfl)), (hts _ (gw ks_51 rfl))⟩ ⟨fb_std, va_recv (q := (RX12, TX12, 33)) hK hPc (ci := 12) (q0 := 0) rfl rfl, pre_std hPc hK hDc hN⟩ rfl rfl hl.1 rfl (lv_room (Nat.le_of_ble_eq_true rfl)) dX12_league_67 ⟨Nat.le_of_ble_eq_true rfl, Nat.le_of_ble_eq_true rfl⟩) hS (fun q _ h => hFc q h) hFc (fun x_25 u9 t9 H1 locs ht hvm hw_25 hB hz1 hk1 hS => ?_)
          obtain ⟨hP1, hK1, hD1⟩ := hB
          rw [ht] at hP1
          clear hK1
          try dsimp only at hw_25
          have hpd9 : PDx (dC, dI) classes A H1 [cI aC m_refused 7 mr, cI aC m_kind 9 kf, cI aC m_figure 9 ff, cI aC m_weight 9 wf, cI aC m_setting 5 stf, cI aC m_offer 81 u_19, cI aC m_gets 90 u_20, cI aC m_yes 9 u_21, cI aC m_buys 9 u_22, cI aC m_ends 9 u_23, cI aC m_carried 9 u_24, oX12 g0 m_refused m_kind m_figure m_weight m_got m_setting (nI n) (nI sn) dn m_tape m_letter m_letterAt m_told tp mat stm m_kept him ki crs m_price m_offer m_gets m_yes m_buys m_ends m_carried m_row rm m_keptRow m_likeGets m_likePrice m_ahead, cI aC m_price 81 u_18] := jn_N (wr := [cI aC m_refused 7 mr, cI aC m_kind 9 kf, cI aC m_figure 9 ff, cI aC m_weight 9 wf, cI aC m_setting 5 stf, cI aC m_offer 81 u_19, cI aC m_gets 90 u_20, cI aC m_yes 9 u_21, cI aC m_buys 9 u_22, cI aC m_ends 9 u_23, cI aC m_carried 9 u_24]) hFc hk1 hP1 hD1 hP hD [1, 6] [0, 2, 3, 4, 5, 7, 8, 9, 10, 11, 12] rfl rfl (by decide) (by decide)
          have hP := hpd9.1
          have hD := hpd9.2
          clear hpd9
          generalize H1 = H at hP hS ⊢
          clear hPc hDc hFc hz1 hk1 hP1 hD1 ht hvm
          have hub := hw_25
          refine lv_iload_n hx hb dX12_league_70 rfl (lv_at hl 2 rfl) ?_
          refine lv_iconst (v := -1) hx hb dX12_league_71 (by decide) ?_
          refine lv_ixor hx hb dX12_league_72 ?_
          refine lv_topi (fun x_26 e_26 => ?_)
          refine lv_iand hx hb dX12_league_73 ?_
          refine lv_topi (fun x_27 e_27 => ?_)
          refine lv_istore_n (lv' := [(3, Value.int x_27), (2, Value.int x_6), (0, Value.ref g0), (1, Value.int v)]) hx hb dX12_league_74 rfl hl (by decide) rfl (fun ls hl => ?_)
          have hfr : ∀ b, b < 32 → bt x_27 b = (decide (sn < b ∧ b < n ∧ (zP (PO n K F W0 S5) sn) b = 0) && !bt v b) := fun b hb => by rw [e_27, e_26, b_and, b_not hb, hub b hb]
          refine lv_iconst (v := 0) hx hb dX12_league_75 (by decide) ?_
          refine lv_istore (lv' := [(4, Value.int 0), (3, Value.int x_27), (2, Value.int x_6), (0, Value.ref g0), (1, Value.int v)]) hx hb dX12_league_76 hl (by decide) rfl (fun ls hl => ?_)
          have lp_78 : ∀ (fu : Nat) (x : Nat) (hfu : 2 ^ n - x < fu) (hxx : x ≤ 2 ^ n) (hno : ∀ z, z < x → ¬ QM n W0 (stf 1) (S5 0) sn (zP (PO n K F W0 S5) sn) v z) (H : Heap) (locs : List Loc) (ls : Array Slot), va_P (dC, dI) classes [cI aC m_refused 7 mr, cI aC m_kind 9 kf, cI aC m_figure 9 ff, cI aC m_weight 9 wf, cI aC m_setting 5 stf, cI aC m_offer 81 u_19, cI aC m_gets 90 u_20, cI aC m_yes 9 u_21, cI aC m_buys 9 u_22, cI aC m_ends 9 u_23, cI aC m_carried 9 u_24, oX12 g0 m_refused m_kind m_figure m_weight m_got m_setting (nI n) (nI sn) dn m_tape m_letter m_letterAt m_told tp mat stm m_kept him ki crs m_price m_offer m_gets m_yes m_buys m_ends m_carried m_row rm m_keptRow m_likeGets m_likePrice m_ahead, cI aC m_price 81 u_18] H → va_D A [cI aC m_refused 7 mr, cI aC m_kind 9 kf, cI aC m_figure 9 ff, cI aC m_weight 9 wf, cI aC m_setting 5 stf, cI aC m_offer 81 u_19, cI aC m_gets 90 u_20, cI aC m_yes 9 u_21, cI aC m_buys 9 u_22, cI aC m_ends 9 u_23, cI aC m_carried 9 u_24, oX12 g0 m_refused m_kind m_figure m_weight m_got m_setting (nI n) (nI sn) dn m_tape m_letter m_letterAt m_told tp mat stm m_kept him ki crs m_price m_offer m_gets m_yes m_buys m_ends m_carried m_row rm m_keptRow m_likeGets m_likePrice m_ahead, cI aC m_price 81 u_18] → va_S A s.heap H locs → lv_has ls 6 [(0, Value.ref g0), (1, Value.int v), (2, Value.int x_6), (3, Value.int x_27), (4, Value.int (nI x))] → W p l e (headSpec (wW yX12_league cX12_league 6 (some .int)) ({ frames := 5, cells := 0, slots := 0, locals := 115 } : Room)).room s m ([Value.ref g0, Value.int v] : List Value).toArray below meth c H locs 0 0 (MQ below (va_Qi (fun (r : Int32) (u : (Nat → Int32) × (Nat → Int32) × (Nat → Int32) × (Nat → Int32) × (Nat → Int32) × (Nat → Int32) × (Nat → Int32) × (Nat → Int32)) => match u with | (pf2, of2, gf2, yf2, bf2, ef2, cf2, mr2) => LGR n sn dn K F W0 S5 v r) (fun (u : (Nat → Int32) × (Nat → Int32) × (Nat → Int32) × (Nat → Int32) × (Nat → Int32) × (Nat → Int32) × (Nat → Int32) × (Nat → Int32)) (t : State) => match u with | (pf2, of2, gf2, yf2, bf2, ef2, cf2, mr2) => va_P (dC, dI) classes [oX12 g0 m_refused m_kind m_figure m_weight m_got m_setting (nI n) (nI sn) dn m_tape m_letter m_letterAt m_told tp mat stm m_kept him ki crs m_price m_offer m_gets m_yes m_buys m_ends m_carried m_row rm m_keptRow m_likeGets m_likePrice m_ahead, cI aC m_kind 9 kf, cI aC m_figure 9 ff, cI aC m_weight 9 wf, cI aC m_setting 5 stf, cI aC m_price 81 pf2, cI aC m_offer 81 of2, cI aC m_gets 90 gf2, cI aC m_yes 9 yf2, cI aC m_buys 9 bf2, cI aC m_ends 9 ef2, cI aC m_carried 9 cf2, cI aC m_refused 7 mr2] t.heap ∧ va_K (dC, dI) classes (TY aC) t ∧ va_D A [oX12 g0 m_refused m_kind m_figure m_weight m_got m_setting (nI n) (nI sn) dn m_tape m_letter m_letterAt m_told tp mat stm m_kept him ki crs m_price m_offer m_gets m_yes m_buys m_ends m_carried m_row rm m_keptRow m_likeGets m_likePrice m_ahead, cI aC m_kind 9 kf, cI aC m_figure 9 ff, cI aC m_weight 9 wf, cI aC m_setting 5 stf, cI aC m_price 81 pf2, cI aC m_offer 81 of2, cI aC m_gets 90 gf2, cI aC m_yes 9 yf2, cI aC m_buys 9 bf2, cI aC m_ends 9 ef2, cI aC m_carried 9 cf2, cI aC m_refused 7 mr2]) A) ([Value.ref g0, Value.int v] : List Value).toArray s 0 0 A) (F0 m 78 ls []) := by
            intro fu
            induction fu with
            | zero => intro x hfu; exact absurd hfu (Nat.not_lt_zero _)
            | succ fu ih_78 =>
              intro x hfu hxx hno H locs ls hP hD hS hl
              refine lv_iload hx hb dX12_league_78 (lv_at hl 4 rfl) ?_
              refine lv_iconst (v := 1) hx hb dX12_league_80 (by decide) ?_
              refine lv_aload_n hx hb dX12_league_81 rfl (lv_at hl 0 rfl) ?_
              refine va_get (D := (dC, dI)) (ci := 12) (v := Value.int (nI n)) (C := RX12) (T := TX12) (N := 33) hx hb hts inX12 hown hK hP 11 rfl rfl 6 (by decide) (hts _ (gw kw_723 rfl)) (fun _ h9 => h9) rfl dX12_league_82 ?_
              refine lv_ishl hx hb dX12_league_85 ?_
              refine lv_topi (fun x_28 e_28 => ?_)
              have h9 : x_28 = nI (2 ^ n) := by rw [e_28]; exact sh1 n (by omega)
              subst h9
              refine lv_icmp_ge (tgt := 201) hx hb dX12_league_86 (by decide) (fun c_29 => ?_) (fun c_29 => ?_)
              · have hxe : x = 2 ^ n := by
                  rcases Nat.lt_or_ge x (2 ^ n) with q | q
                  · exact absurd c_29 (nI_ge q (by omega))
                  · omega
                refine lv_iconst (v := 0) hx hb dX12_league_201 (by decide) ?_
                have hpd9 := pd_N (cx := [oX12 g0 m_refused m_kind m_figure m_weight m_got m_setting (nI n) (nI sn) dn m_tape m_letter m_letterAt m_told tp mat stm m_kept him ki crs m_price m_offer m_gets m_yes m_buys m_ends m_carried m_row rm m_keptRow m_likeGets m_likePrice m_ahead, cI aC m_kind 9 kf, cI aC m_figure 9 ff, cI aC m_weight 9 wf, cI aC m_setting 5 stf, cI aC m_price 81 u_18, cI aC m_offer 81 u_19, cI aC m_gets 90 u_20, cI aC m_yes 9 u_21, cI aC m_buys 9 u_22, cI aC m_ends 9 u_23, cI aC m_carried 9 u_24, cI aC m_refused 7 mr]) hP hD [11, 1, 2, 3, 4, 12, 5, 6, 7, 8, 9, 10, 0] (by decide) rfl
                have hP9 := hpd9.1
                have hD9 := hpd9.2
                refine W.widen (k := 0) (n := 0) (by omega) (by omega) ?_
                exact W.iret (v := 0) hx hb hr (fun t ht hW => ⟨⟨0, (u_18, u_19, u_20, u_21, u_22, u_23, u_24, mr), rfl, LGR_0 hov hM (fun q => by obtain ⟨s9, h1, h2⟩ := (LG_m hM1).mpr q; rw [← hs1] at h2; exact hno s9 (by omega) h2), by rw [ht]; exact hP9, va_K.moved hW.alike hK, hD9⟩, hS.F ht⟩) hS.2.2 dX12_league_202
              · have hlx : x < 2 ^ n := by
                  rcases Nat.lt_or_ge x (2 ^ n) with q | q
                  · exact q
                  · exact absurd (nI_le q (by omega)) c_29
                refine lv_iload hx hb dX12_league_89 (lv_at hl 4 rfl) ?_
                refine lv_iload_n hx hb dX12_league_91 rfl (lv_at hl 2 rfl) ?_
                refine lv_iconst (v := -1) hx hb dX12_league_92 (by decide) ?_
                refine lv_ixor hx hb dX12_league_93 ?_
                refine lv_topi (fun x_30 e_30 => ?_)
                refine lv_iand hx hb dX12_league_94 ?_
                refine lv_topi (fun x_31 e_31 => ?_)
                refine lv_if_ne (tgt := 195) hx hb dX12_league_95 (by decide) (fun c_32 => ?_) (fun c_32 => ?_)
                · have hno2 : ∀ z, z < x + 1 → ¬ QM n W0 (stf 1) (S5 0) sn (zP (PO n K F W0 S5) sn) v z := fun z hz => by
                    by_cases e : z = x
                    · rw [e]
                      exact fun q => c_32 (by rw [e_31, e_30]; exact (bnd_mask ⟨hsn, hn8⟩ hlx hyg).mpr q.1)
                    · exact hno z (by omega)
                  obtain ⟨x_33, e_33⟩ : ∃ y : Int32, y = (nI x) + 1 := ⟨_, rfl⟩
                  refine lv_iinc (v := x_33) (lv' := [(4, Value.int x_33), (0, Value.ref g0), (1, Value.int v), (2, Value.int x_6), (3, Value.int x_27)]) hx hb dX12_league_195 hl (k := 4) rfl (by rw [e_33]; rfl) (by decide) rfl (fun ls hl => ?_)
                  have h9 : x_33 = nI (x + 1) := by rw [e_33, nI_1]
                  subst h9
                  refine lv_goto (tgt := 78) hx hb dX12_league_198 (by decide) ?_
                  exact ih_78 (x + 1) (by omega) (by omega) (hno2) _ _ _ (hP.sub [0, 1, 2, 3, 4, 5, 6, 7, 8, 9, 10, 11, 12] rfl) (hD.sub [0, 1, 2, 3, 4, 5, 6, 7, 8, 9, 10, 11, 12] (by decide) rfl) hS (lv_sub hl [1, 2, 3, 4, 0] rfl)
                · have hB : BND n sn x := (bnd_mask ⟨hsn, hn8⟩ hlx hyg).mp (by rw [← e_30, ← e_31]; exact c_32)
                  refine lv_iload hx hb dX12_league_98 (lv_at hl 4 rfl) ?_
                  refine lv_iload_n hx hb dX12_league_100 rfl (lv_at hl 1 rfl) ?_
                  refine lv_iand hx hb dX12_league_101 ?_
                  refine lv_topi (fun x_34 e_34 => ?_)
                  refine lv_if_eq (tgt := 117) hx hb dX12_league_102 (by decide) (fun c_35 => ?_) (fun c_35 => ?_)
                  · have hd : (∀ q, bt v q = true → x.testBit q = false) ∨ (∀ q, bt v q = true → x.testBit q = true) := Or.inl ((lg_and0 hn8 hlx hM1).mp (by rw [← e_34]; exact c_35))
                    refine lv_iload hx hb dX12_league_117 (lv_at hl 4 rfl) ?_
                    refine lv_iload_n hx hb dX12_league_119 rfl (lv_at hl 3 rfl) ?_
                    refine lv_ior hx hb dX12_league_120 ?_
                    refine lv_topi (fun x_36 e_36 => ?_)
                    refine lv_iconst (v := 1) hx hb dX12_league_121 (by decide) ?_
                    refine lv_aload_n hx hb dX12_league_122 rfl (lv_at hl 0 rfl) ?_
                    refine va_get (D := (dC, dI)) (ci := 12) (v := Value.int (nI sn)) (C := RX12) (T := TX12) (N := 33) hx hb hts inX12 hown hK hP 11 rfl rfl 7 (by decide) (hts _ (gw kw_724 rfl)) (fun _ h9 => h9) rfl dX12_league_123 ?_
                    refine lv_ishl hx hb dX12_league_126 ?_
                    refine lv_topi (fun x_37 e_37 => ?_)
                    refine lv_ior hx hb dX12_league_127 ?_
                    refine lv_topi (fun x_38 e_38 => ?_)
                    refine lv_aload_n hx hb dX12_league_128 rfl (lv_at hl 0 rfl) ?_
                    refine lv_iload_n hx hb dX12_league_129 rfl (lv_at hl 1 rfl) ?_
                    have hpd9 := pdf_N (cx := [oX12 g0 m_refused m_kind m_figure m_weight m_got m_setting (nI n) (nI sn) dn m_tape m_letter m_letterAt m_told tp mat stm m_kept him ki crs m_price m_offer m_gets m_yes m_buys m_ends m_carried m_row rm m_keptRow m_likeGets m_likePrice m_ahead, cI aC m_price 81 u_18]) hP hD hS hA [11, 12] (by decide) rfl
                    have hPc := hpd9.1
                    have hDc := hpd9.2.1
                    have hFc := hpd9.2.2
                    clear hpd9
                    refine va_calli (va_runV (As := [Value.int v]) (rest := [Value.int x_38]) ⟨hx, hb, hml, hown, hts⟩ (c_X12_isFree l dC dI aC H.size g0 m_refused m_kind m_figure m_weight m_got m_setting m_tape m_letter m_letterAt m_told m_kept m_price m_offer m_gets m_yes m_buys m_ends m_carried m_row m_keptRow m_likeGets m_likePrice m_ahead tp mat stm him ki crs rm n sn dn u_18 v (zP (PO n K F W0 S5) sn) (hn8) (hsn) (fun q h1 h2 => ⟨(hm1 sn hsn).1 q h1 h2, zP_le (PO_cl hev) (HF_of hev.1) h1 h2⟩)) ⟨(callB_of 1 hts (gG kw_1073) rfl rfl rfl (hts _ (gw kw_13 rfl)) (hts _ (gw kw_1070 rfl)) hd_X12_isFree ⟨Nat.le_of_ble_eq_true rfl, Nat.le_of_ble_eq_true rfl⟩), (hts _ (gw kw_1072 rfl)), (hts _ (gw ks_67 rfl))⟩ ⟨fb_std, va_recv (q := (RX12, TX12, 33)) hK hPc (ci := 12) (q0 := 0) rfl rfl, pre_std hPc hK hDc hN⟩ rfl rfl hl.1 rfl (lv_room (Nat.le_of_ble_eq_true rfl)) dX12_league_130 ⟨Nat.le_of_ble_eq_true rfl, Nat.le_of_ble_eq_true rfl⟩) hS (fun q _ h => hFc q h) hFc (fun x_39 u9 t9 H1 locs ht hvm hw_39 hB hz1 hk1 hS => ?_)
                    obtain ⟨hP1, hK1, hD1⟩ := hB
                    rw [ht] at hP1
                    clear hK1
                    try dsimp only at hw_39
                    have hpd9 : PDx (dC, dI) classes A H1 [cI aC m_refused 7 mr, cI aC m_kind 9 kf, cI aC m_figure 9 ff, cI aC m_weight 9 wf, cI aC m_setting 5 stf, cI aC m_offer 81 u_19, cI aC m_gets 90 u_20, cI aC m_yes 9 u_21, cI aC m_buys 9 u_22, cI aC m_ends 9 u_23, cI aC m_carried 9 u_24, oX12 g0 m_refused m_kind m_figure m_weight m_got m_setting (nI n) (nI sn) dn m_tape m_letter m_letterAt m_told tp mat stm m_kept him ki crs m_price m_offer m_gets m_yes m_buys m_ends m_carried m_row rm m_keptRow m_likeGets m_likePrice m_ahead, cI aC m_price 81 u_18] := jn_N (wr := [cI aC m_refused 7 mr, cI aC m_kind 9 kf, cI aC m_figure 9 ff, cI aC m_weight 9 wf, cI aC m_setting 5 stf, cI aC m_offer 81 u_19, cI aC m_gets 90 u_20, cI aC m_yes 9 u_21, cI aC m_buys 9 u_22, cI aC m_ends 9 u_23, cI aC m_carried 9 u_24]) hFc hk1 hP1 hD1 hP hD [11, 12] [0, 1, 2, 3, 4, 5, 6, 7, 8, 9, 10] rfl rfl (by decide) (by decide)
                    have hP := hpd9.1
                    have hD := hpd9.2
                    clear hpd9
                    generalize H1 = H at hP hS ⊢
                    clear hPc hDc hFc hz1 hk1 hP1 hD1 ht hvm
                    have hif := hw_39
                    refine lv_if_eq (tgt := 140) hx hb dX12_league_133 (by decide) (fun c_40 => ?_) (fun c_40 => ?_)
                    · refine lv_iconst (v := 0) hx hb dX12_league_140 (by decide) ?_
                      refine lv_ior hx hb dX12_league_141 ?_
                      refine lv_topi (fun x_41 e_41 => ?_)
                      refine lv_istore (lv' := [(5, Value.int x_41), (0, Value.ref g0), (1, Value.int v), (2, Value.int x_6), (3, Value.int x_27), (4, Value.int (nI x))]) hx hb dX12_league_142 hl (by decide) rfl (fun ls hl => ?_)
                      have hwx := lg_wx (x := x_41) (fr := lgS (zP (PO n K F W0 S5) sn) v sn (n - 1 - sn)) ⟨hsn, hn8⟩ hlx hfr (by rw [e_41, e_38, e_36, e_37]) (Or.inr ⟨rfl, (hif.resolve_left (fun q => absurd (q.1.symm.trans c_40) (by decide))).2⟩)
                      refine lv_aload_n hx hb dX12_league_144 rfl (lv_at hl 1 rfl) ?_
                      refine lv_aload_n hx hb dX12_league_145 rfl (lv_at hl 1 rfl) ?_
                      refine va_get (D := (dC, dI)) (ci := 12) (v := Value.int (nI sn)) (C := RX12) (T := TX12) (N := 33) hx hb hts inX12 hown hK hP 11 rfl rfl 7 (by decide) (hts _ (gw kw_724 rfl)) (fun _ h9 => h9) rfl dX12_league_146 ?_
                      refine lv_iload hx hb dX12_league_149 (lv_at hl 5 rfl) ?_
                      have hpd9 := pdf_N (cx := [oX12 g0 m_refused m_kind m_figure m_weight m_got m_setting (nI n) (nI sn) dn m_tape m_letter m_letterAt m_told tp mat stm m_kept him ki crs m_price m_offer m_gets m_yes m_buys m_ends m_carried m_row rm m_keptRow m_likeGets m_likePrice m_ahead, cI aC m_price 81 u_18]) hP hD hS hA [11, 12] (by decide) rfl
                      have hPc := hpd9.1
                      have hDc := hpd9.2.1
                      have hFc := hpd9.2.2
                      clear hpd9
                      refine va_calli (va_runV (As := [Value.int (nI sn), Value.int (nI x)]) (rest := []) ⟨hx, hb, hml, hown, hts⟩ (c_X12_costOf l dC dI aC H.size g0 m_refused m_kind m_figure m_weight m_got m_setting m_tape m_letter m_letterAt m_told m_kept m_price m_offer m_gets m_yes m_buys m_ends m_carried m_row m_keptRow m_likeGets m_likePrice m_ahead (nI sn) dn tp mat stm him ki crs rm n u_18 (zP (PO n K F W0 S5) sn) sn (nI x) (by omega) (fun q h1 h2 => ⟨(hm1 sn hsn).1 q h1 h2, zP_le (PO_cl hev) (HF_of hev.1) h1 h2⟩)) ⟨(callB_of 2 hts (gG kw_937) rfl rfl rfl (hts _ (gw kw_13 rfl)) (hts _ (gw kw_934 rfl)) hd_X12_costOf ⟨Nat.le_of_ble_eq_true rfl, Nat.le_of_ble_eq_true rfl⟩), (hts _ (gw kw_936 rfl)), (hts _ (gw ks_53 rfl))⟩ ⟨fb_std, va_recv (q := (RX12, TX12, 33)) hK hPc (ci := 12) (q0 := 0) rfl rfl, pre_std hPc hK hDc hN⟩ rfl rfl hl.1 rfl (lv_room (Nat.le_of_ble_eq_true rfl)) dX12_league_151 ⟨Nat.le_of_ble_eq_true rfl, Nat.le_of_ble_eq_true rfl⟩) hS (fun q _ h => hFc q h) hFc (fun x_42 u9 t9 H1 locs ht hvm hw_42 hB hz1 hk1 hS => ?_)
                      obtain ⟨hP1, hK1, hD1⟩ := hB
                      rw [ht] at hP1
                      clear hK1
                      try dsimp only at hw_42
                      have hpd9 : PDx (dC, dI) classes A H1 [cI aC m_refused 7 mr, cI aC m_kind 9 kf, cI aC m_figure 9 ff, cI aC m_weight 9 wf, cI aC m_setting 5 stf, cI aC m_offer 81 u_19, cI aC m_gets 90 u_20, cI aC m_yes 9 u_21, cI aC m_buys 9 u_22, cI aC m_ends 9 u_23, cI aC m_carried 9 u_24, oX12 g0 m_refused m_kind m_figure m_weight m_got m_setting (nI n) (nI sn) dn m_tape m_letter m_letterAt m_told tp mat stm m_kept him ki crs m_price m_offer m_gets m_yes m_buys m_ends m_carried m_row rm m_keptRow m_likeGets m_likePrice m_ahead, cI aC m_price 81 u_18] := jn_N (wr := [cI aC m_refused 7 mr, cI aC m_kind 9 kf, cI aC m_figure 9 ff, cI aC m_weight 9 wf, cI aC m_setting 5 stf, cI aC m_offer 81 u_19, cI aC m_gets 90 u_20, cI aC m_yes 9 u_21, cI aC m_buys 9 u_22, cI aC m_ends 9 u_23, cI aC m_carried 9 u_24]) hFc hk1 hP1 hD1 hP hD [11, 12] [0, 1, 2, 3, 4, 5, 6, 7, 8, 9, 10] rfl rfl (by decide) (by decide)
                      have hP := hpd9.1
                      have hD := hpd9.2
                      clear hpd9
                      generalize H1 = H at hP hS ⊢
                      clear hPc hDc hFc hz1 hk1 hP1 hD1 ht hvm
                      have hcl := cstm_le (Pq := (zP (PO n K F W0 S5) sn)) (n := n) (i := sn) (s := x) hn8 (fun q h1 h2 => zP_le (PO_cl hev) (HF_of hev.1) h1 h2)
                      have h9 : x_42 = nI (cstm (zP (PO n K F W0 S5) sn) n sn x) := by rw [hw_42, yw_cstm hn8 hsn hlx]
                      subst h9
                      refine lv_aload_n hx hb dX12_league_154 rfl (lv_at hl 1 rfl) ?_
                      refine va_get (D := (dC, dI)) (ci := 12) (v := Value.ref m_setting) (C := RX12) (T := TX12) (N := 33) hx hb hts inX12 hown hK hP 11 rfl rfl 5 (by decide) (hts _ (gw kw_722 rfl)) (fun _ h9 => h9) rfl dX12_league_155 ?_
                      refine lv_iconst (v := 0) hx hb dX12_league_158 (by decide) ?_
                      have h_43 : vp_in 0 5 := by unfold vp_in; decide
                      refine va_iald hx hb hK hP 4 0 rfl rfl h_43 dX12_league_159 ?_
                      refine lv_topi (fun x_44 e_44 => ?_)
                      have h9 : x_44 = nI (S5 0) := by rw [e_44]; exact hev.2.1 0 (by omega)
                      subst h9
                      refine lv_icmp_gt (tgt := 195) hx hb dX12_league_160 (by decide) (fun c_45 => ?_) (fun c_45 => ?_)
                      · have hno2 : ∀ z, z < x + 1 → ¬ QM n W0 (stf 1) (S5 0) sn (zP (PO n K F W0 S5) sn) v z := fun z hz => by
                          by_cases e : z = x
                          · rw [e]
                            exact fun q => by have h7 := (nI_ltI (by omega) (by omega)).mp c_45; have h8 := q.2.2.1; omega
                          · exact hno z (by omega)
                        obtain ⟨x_46, e_46⟩ : ∃ y : Int32, y = (nI x) + 1 := ⟨_, rfl⟩
                        refine lv_iinc (v := x_46) (lv' := [(4, Value.int x_46), (5, Value.int x_41), (0, Value.ref g0), (1, Value.int v), (2, Value.int x_6), (3, Value.int x_27)]) hx hb dX12_league_195 hl (k := 5) rfl (by rw [e_46]; rfl) (by decide) rfl (fun ls hl => ?_)
                        have h9 : x_46 = nI (x + 1) := by rw [e_46, nI_1]
                        subst h9
                        refine lv_goto (tgt := 78) hx hb dX12_league_198 (by decide) ?_
                        exact ih_78 (x + 1) (by omega) (by omega) (hno2) _ _ _ (hP.sub [0, 1, 2, 3, 4, 5, 6, 7, 8, 9, 10, 11, 12] rfl) (hD.sub [0, 1, 2, 3, 4, 5, 6, 7, 8, 9, 10, 11, 12] (by decide) rfl) hS (lv_sub hl [2, 3, 4, 5, 0] rfl)
                      · have hc9 : cstm (zP (PO n K F W0 S5) sn) n sn x ≤ S5 0 := Nat.le_of_not_lt fun q => c_45 (nI_lt q (by omega))
                        refine lv_aload_n hx hb dX12_league_163 rfl (lv_at hl 1 rfl) ?_
                        refine va_get (D := (dC, dI)) (ci := 12) (v := Value.ref m_setting) (C := RX12) (T := TX12) (N := 33) hx hb hts inX12 hown hK hP 11 rfl rfl 5 (by decide) (hts _ (gw kw_722 rfl)) (fun _ h9 => h9) rfl dX12_league_164 ?_
                        refine lv_iconst (v := 1) hx hb dX12_league_167 (by decide) ?_
                        have h_47 : vp_in 1 5 := by unfold vp_in; decide
                        refine va_iald hx hb hK hP 4 0 rfl rfl h_47 dX12_league_168 ?_
                        refine lv_topi (fun x_48 e_48 => ?_)
                        have h9 : x_48 = (stf 1) := by rw [e_48]; rfl
                        subst h9
                        refine lv_aload_n hx hb dX12_league_169 rfl (lv_at hl 1 rfl) ?_
                        refine lv_iload hx hb dX12_league_170 (lv_at hl 0 rfl) ?_
                        have hpd9 := pdf_N (cx := [oX12 g0 m_refused m_kind m_figure m_weight m_got m_setting (nI n) (nI sn) dn m_tape m_letter m_letterAt m_told tp mat stm m_kept him ki crs m_price m_offer m_gets m_yes m_buys m_ends m_carried m_row rm m_keptRow m_likeGets m_likePrice m_ahead, cI aC m_weight 9 wf]) hP hD hS hA [11, 3] (by decide) rfl
                        have hPc := hpd9.1
                        have hDc := hpd9.2.1
                        have hFc := hpd9.2.2
                        clear hpd9
                        refine va_calli (va_runV (As := [Value.int x_41]) (rest := [Value.int (stf 1)]) ⟨hx, hb, hml, hown, hts⟩ (c_X12_weightOf l dC dI aC H.size g0 m_refused m_kind m_figure m_weight m_got m_setting m_tape m_letter m_letterAt m_told m_kept m_price m_offer m_gets m_yes m_buys m_ends m_carried m_row m_keptRow m_likeGets m_likePrice m_ahead (nI sn) dn tp mat stm him ki crs rm n wf W0 x_41 (HW_of hev.1)) ⟨(callB_of 1 hts (gG kw_930) rfl rfl rfl (hts _ (gw kw_13 rfl)) (hts _ (gw kw_927 rfl)) hd_X12_weightOf ⟨Nat.le_of_ble_eq_true rfl, Nat.le_of_ble_eq_true rfl⟩), (hts _ (gw kw_929 rfl)), (hts _ (gw ks_52 rfl))⟩ ⟨fb_std, va_recv (q := (RX12, TX12, 33)) hK hPc (ci := 12) (q0 := 0) rfl rfl, pre_std hPc hK hDc hN⟩ rfl rfl hl.1 rfl (lv_room (Nat.le_of_ble_eq_true rfl)) dX12_league_172 ⟨Nat.le_of_ble_eq_true rfl, Nat.le_of_ble_eq_true rfl⟩) hS (fun q _ h => hFc q h) hFc (fun x_49 u9 t9 H1 locs ht hvm hw_49 hB hz1 hk1 hS => ?_)
                        obtain ⟨hP1, hK1, hD1⟩ := hB
                        rw [ht] at hP1
                        clear hK1
                        try dsimp only at hw_49
                        have hpd9 : PDx (dC, dI) classes A H1 [cI aC m_refused 7 mr, cI aC m_kind 9 kf, cI aC m_figure 9 ff, cI aC m_setting 5 stf, cI aC m_offer 81 u_19, cI aC m_gets 90 u_20, cI aC m_yes 9 u_21, cI aC m_buys 9 u_22, cI aC m_ends 9 u_23, cI aC m_carried 9 u_24, cI aC m_price 81 u_18, oX12 g0 m_refused m_kind m_figure m_weight m_got m_setting (nI n) (nI sn) dn m_tape m_letter m_letterAt m_told tp mat stm m_kept him ki crs m_price m_offer m_gets m_yes m_buys m_ends m_carried m_row rm m_keptRow m_likeGets m_likePrice m_ahead, cI aC m_weight 9 wf] := jn_N (wr := [cI aC m_refused 7 mr, cI aC m_kind 9 kf, cI aC m_figure 9 ff, cI aC m_setting 5 stf, cI aC m_offer 81 u_19, cI aC m_gets 90 u_20, cI aC m_yes 9 u_21, cI aC m_buys 9 u_22, cI aC m_ends 9 u_23, cI aC m_carried 9 u_24, cI aC m_price 81 u_18]) hFc hk1 hP1 hD1 hP hD [11, 3] [0, 1, 2, 4, 5, 6, 7, 8, 9, 10, 12] rfl rfl (by decide) (by decide)
                        have hP := hpd9.1
                        have hD := hpd9.2
                        clear hpd9
                        generalize H1 = H at hP hS ⊢
                        clear hPc hDc hFc hz1 hk1 hP1 hD1 ht hvm
                        have hWT := lg_yw (W := W0) (P := (zP (PO n K F W0 S5) sn)) (x := x_41) hsn hB hM1 hwx
                        have hy9 := yw_le (W := W0) (y := x_41) (a := 0) (k := n) (fun j q => ((HW_of hev.1).2 j q).2) (by omega) hn8
                        rw [hWT] at hy9
                        have h9 : x_49 = nI (W0 sn + LGW (zP (PO n K F W0 S5) sn) W0 v (lgS (zP (PO n K F W0 S5) sn) v sn (n - 1 - sn)) sn (n - 1 - sn) x.testBit) := by rw [hw_49, hWT]
                        subst h9
                        refine lv_aload_n hx hb dX12_league_175 rfl (lv_at hl 1 rfl) ?_
                        refine lv_aload_n hx hb dX12_league_176 rfl (lv_at hl 1 rfl) ?_
                        refine lv_aload_n hx hb dX12_league_177 rfl (lv_at hl 1 rfl) ?_
                        refine va_get (D := (dC, dI)) (ci := 12) (v := Value.int (nI sn)) (C := RX12) (T := TX12) (N := 33) hx hb hts inX12 hown hK hP 11 rfl rfl 7 (by decide) (hts _ (gw kw_724 rfl)) (fun _ h9 => h9) rfl dX12_league_178 ?_
                        have hpd9 := pdf_N (cx := [oX12 g0 m_refused m_kind m_figure m_weight m_got m_setting (nI n) (nI sn) dn m_tape m_letter m_letterAt m_told tp mat stm m_kept him ki crs m_price m_offer m_gets m_yes m_buys m_ends m_carried m_row rm m_keptRow m_likeGets m_likePrice m_ahead]) hP hD hS hA [11] (by decide) rfl
                        have hPc := hpd9.1
                        have hDc := hpd9.2.1
                        have hFc := hpd9.2.2
                        clear hpd9
                        refine va_calli (va_runV (As := [Value.int (nI sn)]) (rest := [Value.ref g0, Value.int (nI (W0 sn + LGW (zP (PO n K F W0 S5) sn) W0 v (lgS (zP (PO n K F W0 S5) sn) v sn (n - 1 - sn)) sn (n - 1 - sn) x.testBit)), Value.int (stf 1)]) ⟨hx, hb, hml, hown, hts⟩ (c_X12_leftFrom l dC dI aC H.size g0 m_refused m_kind m_figure m_weight m_got m_setting m_tape m_letter m_letterAt m_told m_kept m_price m_offer m_gets m_yes m_buys m_ends m_carried m_row m_keptRow m_likeGets m_likePrice m_ahead (nI sn) dn tp mat stm him ki crs rm n sn (by omega)) ⟨(callB_of 1 hts (gG kw_922) rfl rfl rfl (hts _ (gw kw_13 rfl)) (hts _ (gw kw_919 rfl)) hd_X12_leftFrom ⟨Nat.le_of_ble_eq_true rfl, Nat.le_of_ble_eq_true rfl⟩), (hts _ (gw kw_921 rfl)), (hts _ (gw ks_50 rfl))⟩ ⟨fb_std, va_recv (q := (RX12, TX12, 33)) hK hPc (ci := 12) (q0 := 0) rfl rfl, pre_std hPc hK hDc hN⟩ rfl rfl hl.1 rfl (lv_room (Nat.le_of_ble_eq_true rfl)) dX12_league_181 ⟨Nat.le_of_ble_eq_true rfl, Nat.le_of_ble_eq_true rfl⟩) hS (fun q _ h => hFc q h) hFc (fun x_50 u9 t9 H1 locs ht hvm hw_50 hB hz1 hk1 hS => ?_)
                        obtain ⟨hP1, hK1, hD1⟩ := hB
                        rw [ht] at hP1
                        clear hK1
                        try dsimp only at hw_50
                        have hpd9 : PDx (dC, dI) classes A H1 [cI aC m_refused 7 mr, cI aC m_kind 9 kf, cI aC m_figure 9 ff, cI aC m_setting 5 stf, cI aC m_offer 81 u_19, cI aC m_gets 90 u_20, cI aC m_yes 9 u_21, cI aC m_buys 9 u_22, cI aC m_ends 9 u_23, cI aC m_carried 9 u_24, cI aC m_price 81 u_18, cI aC m_weight 9 wf, oX12 g0 m_refused m_kind m_figure m_weight m_got m_setting (nI n) (nI sn) dn m_tape m_letter m_letterAt m_told tp mat stm m_kept him ki crs m_price m_offer m_gets m_yes m_buys m_ends m_carried m_row rm m_keptRow m_likeGets m_likePrice m_ahead] := jn_N (wr := [cI aC m_refused 7 mr, cI aC m_kind 9 kf, cI aC m_figure 9 ff, cI aC m_setting 5 stf, cI aC m_offer 81 u_19, cI aC m_gets 90 u_20, cI aC m_yes 9 u_21, cI aC m_buys 9 u_22, cI aC m_ends 9 u_23, cI aC m_carried 9 u_24, cI aC m_price 81 u_18, cI aC m_weight 9 wf]) hFc hk1 hP1 hD1 hP hD [11] [0, 1, 2, 3, 4, 5, 6, 7, 8, 9, 10, 12] rfl rfl (by decide) (by decide)
                        have hP := hpd9.1
                        have hD := hpd9.2
                        clear hpd9
                        generalize H1 = H at hP hS ⊢
                        clear hPc hDc hFc hz1 hk1 hP1 hD1 ht hvm
                        have hwl := hw_50
                        have hpd9 := pdf_N (cx := [oX12 g0 m_refused m_kind m_figure m_weight m_got m_setting (nI n) (nI sn) dn m_tape m_letter m_letterAt m_told tp mat stm m_kept him ki crs m_price m_offer m_gets m_yes m_buys m_ends m_carried m_row rm m_keptRow m_likeGets m_likePrice m_ahead, cI aC m_weight 9 wf]) hP hD hS hA [12, 11] (by decide) rfl
                        have hPc := hpd9.1
                        have hDc := hpd9.2.1
                        have hFc := hpd9.2.2
                        clear hpd9
                        refine va_calli (va_runV (As := [Value.int x_50]) (rest := [Value.int (nI (W0 sn + LGW (zP (PO n K F W0 S5) sn) W0 v (lgS (zP (PO n K F W0 S5) sn) v sn (n - 1 - sn)) sn (n - 1 - sn) x.testBit)), Value.int (stf 1)]) ⟨hx, hb, hml, hown, hts⟩ (c_X12_weightOf l dC dI aC H.size g0 m_refused m_kind m_figure m_weight m_got m_setting m_tape m_letter m_letterAt m_told m_kept m_price m_offer m_gets m_yes m_buys m_ends m_carried m_row m_keptRow m_likeGets m_likePrice m_ahead (nI sn) dn tp mat stm him ki crs rm n wf W0 x_50 (HW_of hev.1)) ⟨(callB_of 1 hts (gG kw_930) rfl rfl rfl (hts _ (gw kw_13 rfl)) (hts _ (gw kw_927 rfl)) hd_X12_weightOf ⟨Nat.le_of_ble_eq_true rfl, Nat.le_of_ble_eq_true rfl⟩), (hts _ (gw kw_929 rfl)), (hts _ (gw ks_52 rfl))⟩ ⟨fb_std, va_recv (q := (RX12, TX12, 33)) hK hPc (ci := 12) (q0 := 0) rfl rfl, pre_std hPc hK hDc hN⟩ rfl rfl hl.1 rfl (lv_room (Nat.le_of_ble_eq_true rfl)) dX12_league_184 ⟨Nat.le_of_ble_eq_true rfl, Nat.le_of_ble_eq_true rfl⟩) hS (fun q _ h => hFc q h) hFc (fun x_51 u9 t9 H1 locs ht hvm hw_51 hB hz1 hk1 hS => ?_)
                        obtain ⟨hP1, hK1, hD1⟩ := hB
                        rw [ht] at hP1
                        clear hK1
                        try dsimp only at hw_51
                        have hpd9 : PDx (dC, dI) classes A H1 [cI aC m_refused 7 mr, cI aC m_kind 9 kf, cI aC m_figure 9 ff, cI aC m_setting 5 stf, cI aC m_offer 81 u_19, cI aC m_gets 90 u_20, cI aC m_yes 9 u_21, cI aC m_buys 9 u_22, cI aC m_ends 9 u_23, cI aC m_carried 9 u_24, cI aC m_price 81 u_18, oX12 g0 m_refused m_kind m_figure m_weight m_got m_setting (nI n) (nI sn) dn m_tape m_letter m_letterAt m_told tp mat stm m_kept him ki crs m_price m_offer m_gets m_yes m_buys m_ends m_carried m_row rm m_keptRow m_likeGets m_likePrice m_ahead, cI aC m_weight 9 wf] := jn_N (wr := [cI aC m_refused 7 mr, cI aC m_kind 9 kf, cI aC m_figure 9 ff, cI aC m_setting 5 stf, cI aC m_offer 81 u_19, cI aC m_gets 90 u_20, cI aC m_yes 9 u_21, cI aC m_buys 9 u_22, cI aC m_ends 9 u_23, cI aC m_carried 9 u_24, cI aC m_price 81 u_18]) hFc hk1 hP1 hD1 hP hD [12, 11] [0, 1, 2, 3, 4, 5, 6, 7, 8, 9, 10] rfl rfl (by decide) (by decide)
                        have hP := hpd9.1
                        have hD := hpd9.2
                        clear hpd9
                        generalize H1 = H at hP hS ⊢
                        clear hPc hDc hFc hz1 hk1 hP1 hD1 ht hvm
                        have h9 : x_51 = nI (sumr W0 sn (n - sn)) := by rw [hw_51, yw_left (by omega) hn8 hwl]
                        subst h9
                        have hpd9 := pdf_N (cx := []) hP hD hS hA [] (by decide) rfl
                        have hPc := hpd9.1
                        have hDc := hpd9.2.1
                        have hFc := hpd9.2.2
                        clear hpd9
                        refine va_calli (va_runS (As := [Value.int (stf 1), Value.int (nI (W0 sn + LGW (zP (PO n K F W0 S5) sn) W0 v (lgS (zP (PO n K F W0 S5) sn) v sn (n - 1 - sn)) sn (n - 1 - sn) x.testBit)), Value.int (nI (sumr W0 sn (n - sn)))]) (rest := []) ⟨hx, hb, hml, hown, hts⟩ (c_X12_isCarried l dC dI aC H.size (stf 1) (W0 sn + LGW (zP (PO n K F W0 S5) sn) W0 v (lgS (zP (PO n K F W0 S5) sn) v sn (n - 1 - sn)) sn (n - 1 - sn) x.testBit) (sumr W0 sn (n - sn)) (by omega) (by omega)) ⟨(callB_of 3 hts (gG kw_933) rfl rfl rfl (hts _ (gw kw_13 rfl)) (hts _ (gw kw_931 rfl)) hd_X12_isCarried ⟨Nat.le_of_ble_eq_true rfl, Nat.le_of_ble_eq_true rfl⟩), (hts _ (gw kw_932 rfl))⟩ ⟨fb_std, pre_std hPc hK hDc hN⟩ rfl rfl hl.1 rfl (lv_room (Nat.le_of_ble_eq_true rfl)) dX12_league_187 ⟨Nat.le_of_ble_eq_true rfl, Nat.le_of_ble_eq_true rfl⟩) hS (fun q _ h => hFc q h) hFc (fun x_52 u9 t9 H1 locs ht hvm hw_52 hB hz1 hk1 hS => ?_)
                        obtain ⟨hP1, hK1, hD1⟩ := hB
                        rw [ht] at hP1
                        clear hK1
                        try dsimp only at hw_52
                        have hpd9 : PDx (dC, dI) classes A H1 [cI aC m_refused 7 mr, cI aC m_kind 9 kf, cI aC m_figure 9 ff, cI aC m_setting 5 stf, cI aC m_offer 81 u_19, cI aC m_gets 90 u_20, cI aC m_yes 9 u_21, cI aC m_buys 9 u_22, cI aC m_ends 9 u_23, cI aC m_carried 9 u_24, cI aC m_price 81 u_18, oX12 g0 m_refused m_kind m_figure m_weight m_got m_setting (nI n) (nI sn) dn m_tape m_letter m_letterAt m_told tp mat stm m_kept him ki crs m_price m_offer m_gets m_yes m_buys m_ends m_carried m_row rm m_keptRow m_likeGets m_likePrice m_ahead, cI aC m_weight 9 wf] := jn_N (wr := [cI aC m_refused 7 mr, cI aC m_kind 9 kf, cI aC m_figure 9 ff, cI aC m_setting 5 stf, cI aC m_offer 81 u_19, cI aC m_gets 90 u_20, cI aC m_yes 9 u_21, cI aC m_buys 9 u_22, cI aC m_ends 9 u_23, cI aC m_carried 9 u_24, cI aC m_price 81 u_18, oX12 g0 m_refused m_kind m_figure m_weight m_got m_setting (nI n) (nI sn) dn m_tape m_letter m_letterAt m_told tp mat stm m_kept him ki crs m_price m_offer m_gets m_yes m_buys m_ends m_carried m_row rm m_keptRow m_likeGets m_likePrice m_ahead, cI aC m_weight 9 wf]) hFc hk1 hP1 hD1 hP hD [] [0, 1, 2, 3, 4, 5, 6, 7, 8, 9, 10, 11, 12] rfl rfl (by decide) (by decide)
                        have hP := hpd9.1
                        have hD := hpd9.2
                        clear hpd9
                        generalize H1 = H at hP hS ⊢
                        clear hPc hDc hFc hz1 hk1 hP1 hD1 ht hvm
                        have hz_187 := hw_52
                        refine lv_if_eq (tgt := 195) hx hb dX12_league_190 (by decide) (fun c_53 => ?_) (fun c_53 => ?_)
                        · have hno2 : ∀ z, z < x + 1 → ¬ QM n W0 (stf 1) (S5 0) sn (zP (PO n K F W0 S5) sn) v z := fun z hz => by
                            by_cases e : z = x
                            · rw [e]
                              exact fun q => absurd (hz_187.symm.trans c_53) (by rw [if_pos q.2.2.2]; decide)
                            · exact hno z (by omega)
                          obtain ⟨x_54, e_54⟩ : ∃ y : Int32, y = (nI x) + 1 := ⟨_, rfl⟩
                          refine lv_iinc (v := x_54) (lv' := [(4, Value.int x_54), (5, Value.int x_41), (0, Value.ref g0), (1, Value.int v), (2, Value.int x_6), (3, Value.int x_27)]) hx hb dX12_league_195 hl (k := 5) rfl (by rw [e_54]; rfl) (by decide) rfl (fun ls hl => ?_)
                          have h9 : x_54 = nI (x + 1) := by rw [e_54, nI_1]
                          subst h9
                          refine lv_goto (tgt := 78) hx hb dX12_league_198 (by decide) ?_
                          exact ih_78 (x + 1) (by omega) (by omega) (hno2) _ _ _ (hP.sub [0, 1, 2, 12, 3, 4, 5, 6, 7, 8, 9, 11, 10] rfl) (hD.sub [0, 1, 2, 12, 3, 4, 5, 6, 7, 8, 9, 11, 10] (by decide) rfl) hS (lv_sub hl [2, 3, 4, 5, 0] rfl)
                        · have hcar : nd (stf 1) (sumr W0 sn (n - sn)) ≤ (W0 sn + LGW (zP (PO n K F W0 S5) sn) W0 v (lgS (zP (PO n K F W0 S5) sn) v sn (n - 1 - sn)) sn (n - 1 - sn) x.testBit) := by
                            by_cases q : nd (stf 1) (sumr W0 sn (n - sn)) ≤ (W0 sn + LGW (zP (PO n K F W0 S5) sn) W0 v (lgS (zP (PO n K F W0 S5) sn) v sn (n - 1 - sn)) sn (n - 1 - sn) x.testBit)
                            · exact q
                            · exact absurd (by rw [hz_187, if_neg q]) c_53
                          refine lv_iconst (v := 1) hx hb dX12_league_193 (by decide) ?_
                          have hpd9 := pd_N (cx := [oX12 g0 m_refused m_kind m_figure m_weight m_got m_setting (nI n) (nI sn) dn m_tape m_letter m_letterAt m_told tp mat stm m_kept him ki crs m_price m_offer m_gets m_yes m_buys m_ends m_carried m_row rm m_keptRow m_likeGets m_likePrice m_ahead, cI aC m_kind 9 kf, cI aC m_figure 9 ff, cI aC m_weight 9 wf, cI aC m_setting 5 stf, cI aC m_price 81 u_18, cI aC m_offer 81 u_19, cI aC m_gets 90 u_20, cI aC m_yes 9 u_21, cI aC m_buys 9 u_22, cI aC m_ends 9 u_23, cI aC m_carried 9 u_24, cI aC m_refused 7 mr]) hP hD [11, 1, 2, 12, 3, 10, 4, 5, 6, 7, 8, 9, 0] (by decide) rfl
                          have hP9 := hpd9.1
                          have hD9 := hpd9.2
                          refine W.widen (k := 0) (n := 0) (by omega) (by omega) ?_
                          exact W.iret (v := 1) hx hb hr (fun t ht hW => ⟨⟨1, (u_18, u_19, u_20, u_21, u_22, u_23, u_24, mr), rfl, LGR_1 hov hM ((LG_m hM1).mp ⟨x, hlx, by rw [← hs1]; exact ⟨hB, hd, hc9, hcar⟩⟩), by rw [ht]; exact hP9, va_K.moved hW.alike hK, hD9⟩, hS.F ht⟩) hS.2.2 dX12_league_194
                    · refine lv_iload_n hx hb dX12_league_136 rfl (lv_at hl 1 rfl) ?_
                      refine lv_goto (tgt := 141) hx hb dX12_league_137 (by decide) ?_
                      refine lv_ior hx hb dX12_league_141 ?_
                      refine lv_topi (fun x_55 e_55 => ?_)
                      refine lv_istore (lv' := [(5, Value.int x_55), (0, Value.ref g0), (1, Value.int v), (2, Value.int x_6), (3, Value.int x_27), (4, Value.int (nI x))]) hx hb dX12_league_142 hl (by decide) rfl (fun ls hl => ?_)
                      have hwx := lg_wx (x := x_55) (fr := lgS (zP (PO n K F W0 S5) sn) v sn (n - 1 - sn)) ⟨hsn, hn8⟩ hlx hfr (by rw [e_55, e_38, e_36, e_37]) (Or.inl ⟨rfl, (hif.resolve_right (fun q => c_40 q.1)).2⟩)
                      refine lv_aload_n hx hb dX12_league_144 rfl (lv_at hl 1 rfl) ?_
                      refine lv_aload_n hx hb dX12_league_145 rfl (lv_at hl 1 rfl) ?_
                      refine va_get (D := (dC, dI)) (ci := 12) (v := Value.int (nI sn)) (C := RX12) (T := TX12) (N := 33) hx hb hts inX12 hown hK hP 11 rfl rfl 7 (by decide) (hts _ (gw kw_724 rfl)) (fun _ h9 => h9) rfl dX12_league_146 ?_
                      refine lv_iload hx hb dX12_league_149 (lv_at hl 5 rfl) ?_
                      have hpd9 := pdf_N (cx := [oX12 g0 m_refused m_kind m_figure m_weight m_got m_setting (nI n) (nI sn) dn m_tape m_letter m_letterAt m_told tp mat stm m_kept him ki crs m_price m_offer m_gets m_yes m_buys m_ends m_carried m_row rm m_keptRow m_likeGets m_likePrice m_ahead, cI aC m_price 81 u_18]) hP hD hS hA [11, 12] (by decide) rfl
                      have hPc := hpd9.1
                      have hDc := hpd9.2.1
                      have hFc := hpd9.2.2
                      clear hpd9
                      refine va_calli (va_runV (As := [Value.int (nI sn), Value.int (nI x)]) (rest := []) ⟨hx, hb, hml, hown, hts⟩ (c_X12_costOf l dC dI aC H.size g0 m_refused m_kind m_figure m_weight m_got m_setting m_tape m_letter m_letterAt m_told m_kept m_price m_offer m_gets m_yes m_buys m_ends m_carried m_row m_keptRow m_likeGets m_likePrice m_ahead (nI sn) dn tp mat stm him ki crs rm n u_18 (zP (PO n K F W0 S5) sn) sn (nI x) (by omega) (fun q h1 h2 => ⟨(hm1 sn hsn).1 q h1 h2, zP_le (PO_cl hev) (HF_of hev.1) h1 h2⟩)) ⟨(callB_of 2 hts (gG kw_937) rfl rfl rfl (hts _ (gw kw_13 rfl)) (hts _ (gw kw_934 rfl)) hd_X12_costOf ⟨Nat.le_of_ble_eq_true rfl, Nat.le_of_ble_eq_true rfl⟩), (hts _ (gw kw_936 rfl)), (hts _ (gw ks_53 rfl))⟩ ⟨fb_std, va_recv (q := (RX12, TX12, 33)) hK hPc (ci := 12) (q0 := 0) rfl rfl, pre_std hPc hK hDc hN⟩ rfl rfl hl.1 rfl (lv_room (Nat.le_of_ble_eq_true rfl)) dX12_league_151 ⟨Nat.le_of_ble_eq_true rfl, Nat.le_of_ble_eq_true rfl⟩) hS (fun q _ h => hFc q h) hFc (fun x_56 u9 t9 H1 locs ht hvm hw_56 hB hz1 hk1 hS => ?_)
                      obtain ⟨hP1, hK1, hD1⟩ := hB
                      rw [ht] at hP1
                      clear hK1
                      try dsimp only at hw_56
                      have hpd9 : PDx (dC, dI) classes A H1 [cI aC m_refused 7 mr, cI aC m_kind 9 kf, cI aC m_figure 9 ff, cI aC m_weight 9 wf, cI aC m_setting 5 stf, cI aC m_offer 81 u_19, cI aC m_gets 90 u_20, cI aC m_yes 9 u_21, cI aC m_buys 9 u_22, cI aC m_ends 9 u_23, cI aC m_carried 9 u_24, oX12 g0 m_refused m_kind m_figure m_weight m_got m_setting (nI n) (nI sn) dn m_tape m_letter m_letterAt m_told tp mat stm m_kept him ki crs m_price m_offer m_gets m_yes m_buys m_ends m_carried m_row rm m_keptRow m_likeGets m_likePrice m_ahead, cI aC m_price 81 u_18] := jn_N (wr := [cI aC m_refused 7 mr, cI aC m_kind 9 kf, cI aC m_figure 9 ff, cI aC m_weight 9 wf, cI aC m_setting 5 stf, cI aC m_offer 81 u_19, cI aC m_gets 90 u_20, cI aC m_yes 9 u_21, cI aC m_buys 9 u_22, cI aC m_ends 9 u_23, cI aC m_carried 9 u_24]) hFc hk1 hP1 hD1 hP hD [11, 12] [0, 1, 2, 3, 4, 5, 6, 7, 8, 9, 10] rfl rfl (by decide) (by decide)
                      have hP := hpd9.1
                      have hD := hpd9.2
                      clear hpd9
                      generalize H1 = H at hP hS ⊢
                      clear hPc hDc hFc hz1 hk1 hP1 hD1 ht hvm
                      have hcl := cstm_le (Pq := (zP (PO n K F W0 S5) sn)) (n := n) (i := sn) (s := x) hn8 (fun q h1 h2 => zP_le (PO_cl hev) (HF_of hev.1) h1 h2)
                      have h9 : x_56 = nI (cstm (zP (PO n K F W0 S5) sn) n sn x) := by rw [hw_56, yw_cstm hn8 hsn hlx]
                      subst h9
                      refine lv_aload_n hx hb dX12_league_154 rfl (lv_at hl 1 rfl) ?_
                      refine va_get (D := (dC, dI)) (ci := 12) (v := Value.ref m_setting) (C := RX12) (T := TX12) (N := 33) hx hb hts inX12 hown hK hP 11 rfl rfl 5 (by decide) (hts _ (gw kw_722 rfl)) (fun _ h9 => h9) rfl dX12_league_155 ?_
                      refine lv_iconst (v := 0) hx hb dX12_league_158 (by decide) ?_
                      have h_57 : vp_in 0 5 := by unfold vp_in; decide
                      refine va_iald hx hb hK hP 4 0 rfl rfl h_57 dX12_league_159 ?_
                      refine lv_topi (fun x_58 e_58 => ?_)
                      have h9 : x_58 = nI (S5 0) := by rw [e_58]; exact hev.2.1 0 (by omega)
                      subst h9
                      refine lv_icmp_gt (tgt := 195) hx hb dX12_league_160 (by decide) (fun c_59 => ?_) (fun c_59 => ?_)
                      · have hno2 : ∀ z, z < x + 1 → ¬ QM n W0 (stf 1) (S5 0) sn (zP (PO n K F W0 S5) sn) v z := fun z hz => by
                          by_cases e : z = x
                          · rw [e]
                            exact fun q => by have h7 := (nI_ltI (by omega) (by omega)).mp c_59; have h8 := q.2.2.1; omega
                          · exact hno z (by omega)
                        obtain ⟨x_60, e_60⟩ : ∃ y : Int32, y = (nI x) + 1 := ⟨_, rfl⟩
                        refine lv_iinc (v := x_60) (lv' := [(4, Value.int x_60), (5, Value.int x_55), (0, Value.ref g0), (1, Value.int v), (2, Value.int x_6), (3, Value.int x_27)]) hx hb dX12_league_195 hl (k := 5) rfl (by rw [e_60]; rfl) (by decide) rfl (fun ls hl => ?_)
                        have h9 : x_60 = nI (x + 1) := by rw [e_60, nI_1]
                        subst h9
                        refine lv_goto (tgt := 78) hx hb dX12_league_198 (by decide) ?_
                        exact ih_78 (x + 1) (by omega) (by omega) (hno2) _ _ _ (hP.sub [0, 1, 2, 3, 4, 5, 6, 7, 8, 9, 10, 11, 12] rfl) (hD.sub [0, 1, 2, 3, 4, 5, 6, 7, 8, 9, 10, 11, 12] (by decide) rfl) hS (lv_sub hl [2, 3, 4, 5, 0] rfl)
                      · have hc9 : cstm (zP (PO n K F W0 S5) sn) n sn x ≤ S5 0 := Nat.le_of_not_lt fun q => c_59 (nI_lt q (by omega))
                        refine lv_aload_n hx hb dX12_league_163 rfl (lv_at hl 1 rfl) ?_
                        refine va_get (D := (dC, dI)) (ci := 12) (v := Value.ref m_setting) (C := RX12) (T := TX12) (N := 33) hx hb hts inX12 hown hK hP 11 rfl rfl 5 (by decide) (hts _ (gw kw_722 rfl)) (fun _ h9 => h9) rfl dX12_league_164 ?_
                        refine lv_iconst (v := 1) hx hb dX12_league_167 (by decide) ?_
                        have h_61 : vp_in 1 5 := by unfold vp_in; decide
                        refine va_iald hx hb hK hP 4 0 rfl rfl h_61 dX12_league_168 ?_
                        refine lv_topi (fun x_62 e_62 => ?_)
                        have h9 : x_62 = (stf 1) := by rw [e_62]; rfl
                        subst h9
                        refine lv_aload_n hx hb dX12_league_169 rfl (lv_at hl 1 rfl) ?_
                        refine lv_iload hx hb dX12_league_170 (lv_at hl 0 rfl) ?_
                        have hpd9 := pdf_N (cx := [oX12 g0 m_refused m_kind m_figure m_weight m_got m_setting (nI n) (nI sn) dn m_tape m_letter m_letterAt m_told tp mat stm m_kept him ki crs m_price m_offer m_gets m_yes m_buys m_ends m_carried m_row rm m_keptRow m_likeGets m_likePrice m_ahead, cI aC m_weight 9 wf]) hP hD hS hA [11, 3] (by decide) rfl
                        have hPc := hpd9.1
                        have hDc := hpd9.2.1
                        have hFc := hpd9.2.2
                        clear hpd9
                        refine va_calli (va_runV (As := [Value.int x_55]) (rest := [Value.int (stf 1)]) ⟨hx, hb, hml, hown, hts⟩ (c_X12_weightOf l dC dI aC H.size g0 m_refused m_kind m_figure m_weight m_got m_setting m_tape m_letter m_letterAt m_told m_kept m_price m_offer m_gets m_yes m_buys m_ends m_carried m_row m_keptRow m_likeGets m_likePrice m_ahead (nI sn) dn tp mat stm him ki crs rm n wf W0 x_55 (HW_of hev.1)) ⟨(callB_of 1 hts (gG kw_930) rfl rfl rfl (hts _ (gw kw_13 rfl)) (hts _ (gw kw_927 rfl)) hd_X12_weightOf ⟨Nat.le_of_ble_eq_true rfl, Nat.le_of_ble_eq_true rfl⟩), (hts _ (gw kw_929 rfl)), (hts _ (gw ks_52 rfl))⟩ ⟨fb_std, va_recv (q := (RX12, TX12, 33)) hK hPc (ci := 12) (q0 := 0) rfl rfl, pre_std hPc hK hDc hN⟩ rfl rfl hl.1 rfl (lv_room (Nat.le_of_ble_eq_true rfl)) dX12_league_172 ⟨Nat.le_of_ble_eq_true rfl, Nat.le_of_ble_eq_true rfl⟩) hS (fun q _ h => hFc q h) hFc (fun x_63 u9 t9 H1 locs ht hvm hw_63 hB hz1 hk1 hS => ?_)
                        obtain ⟨hP1, hK1, hD1⟩ := hB
                        rw [ht] at hP1
                        clear hK1
                        try dsimp only at hw_63
                        have hpd9 : PDx (dC, dI) classes A H1 [cI aC m_refused 7 mr, cI aC m_kind 9 kf, cI aC m_figure 9 ff, cI aC m_setting 5 stf, cI aC m_offer 81 u_19, cI aC m_gets 90 u_20, cI aC m_yes 9 u_21, cI aC m_buys 9 u_22, cI aC m_ends 9 u_23, cI aC m_carried 9 u_24, cI aC m_price 81 u_18, oX12 g0 m_refused m_kind m_figure m_weight m_got m_setting (nI n) (nI sn) dn m_tape m_letter m_letterAt m_told tp mat stm m_kept him ki crs m_price m_offer m_gets m_yes m_buys m_ends m_carried m_row rm m_keptRow m_likeGets m_likePrice m_ahead, cI aC m_weight 9 wf] := jn_N (wr := [cI aC m_refused 7 mr, cI aC m_kind 9 kf, cI aC m_figure 9 ff, cI aC m_setting 5 stf, cI aC m_offer 81 u_19, cI aC m_gets 90 u_20, cI aC m_yes 9 u_21, cI aC m_buys 9 u_22, cI aC m_ends 9 u_23, cI aC m_carried 9 u_24, cI aC m_price 81 u_18]) hFc hk1 hP1 hD1 hP hD [11, 3] [0, 1, 2, 4, 5, 6, 7, 8, 9, 10, 12] rfl rfl (by decide) (by decide)
                        have hP := hpd9.1
                        have hD := hpd9.2
                        clear hpd9
                        generalize H1 = H at hP hS ⊢
                        clear hPc hDc hFc hz1 hk1 hP1 hD1 ht hvm
                        have hWT := lg_yw (W := W0) (P := (zP (PO n K F W0 S5) sn)) (x := x_55) hsn hB hM1 hwx
                        have hy9 := yw_le (W := W0) (y := x_55) (a := 0) (k := n) (fun j q => ((HW_of hev.1).2 j q).2) (by omega) hn8
                        rw [hWT] at hy9
                        have h9 : x_63 = nI (W0 sn + LGW (zP (PO n K F W0 S5) sn) W0 v (lgS (zP (PO n K F W0 S5) sn) v sn (n - 1 - sn)) sn (n - 1 - sn) x.testBit) := by rw [hw_63, hWT]
                        subst h9
                        refine lv_aload_n hx hb dX12_league_175 rfl (lv_at hl 1 rfl) ?_
                        refine lv_aload_n hx hb dX12_league_176 rfl (lv_at hl 1 rfl) ?_
                        refine lv_aload_n hx hb dX12_league_177 rfl (lv_at hl 1 rfl) ?_
                        refine va_get (D := (dC, dI)) (ci := 12) (v := Value.int (nI sn)) (C := RX12) (T := TX12) (N := 33) hx hb hts inX12 hown hK hP 11 rfl rfl 7 (by decide) (hts _ (gw kw_724 rfl)) (fun _ h9 => h9) rfl dX12_league_178 ?_
                        have hpd9 := pdf_N (cx := [oX12 g0 m_refused m_kind m_figure m_weight m_got m_setting (nI n) (nI sn) dn m_tape m_letter m_letterAt m_told tp mat stm m_kept him ki crs m_price m_offer m_gets m_yes m_buys m_ends m_carried m_row rm m_keptRow m_likeGets m_likePrice m_ahead]) hP hD hS hA [11] (by decide) rfl
                        have hPc := hpd9.1
                        have hDc := hpd9.2.1
                        have hFc := hpd9.2.2
                        clear hpd9
                        refine va_calli (va_runV (As := [Value.int (nI sn)]) (rest := [Value.ref g0, Value.int (nI (W0 sn + LGW (zP (PO n K F W0 S5) sn) W0 v (lgS (zP (PO n K F W0 S5) sn) v sn (n - 1 - sn)) sn (n - 1 - sn) x.testBit)), Value.int (stf 1)]) ⟨hx, hb, hml, hown, hts⟩ (c_X12_leftFrom l dC dI aC H.size g0 m_refused m_kind m_figure m_weight m_got m_setting m_tape m_letter m_letterAt m_told m_kept m_price m_offer m_gets m_yes m_buys m_ends m_carried m_row m_keptRow m_likeGets m_likePrice m_ahead (nI sn) dn tp mat stm him ki crs rm n sn (by omega)) ⟨(callB_of 1 hts (gG kw_922) rfl rfl rfl (hts _ (gw kw_13 rfl)) (hts _ (gw kw_919 rfl)) hd_X12_leftFrom ⟨Nat.le_of_ble_eq_true rfl, Nat.le_of_ble_eq_true rfl⟩), (hts _ (gw kw_921 rfl)), (hts _ (gw ks_50 rfl))⟩ ⟨fb_std, va_recv (q := (RX12, TX12, 33)) hK hPc (ci := 12) (q0 := 0) rfl rfl, pre_std hPc hK hDc hN⟩ rfl rfl hl.1 rfl (lv_room (Nat.le_of_ble_eq_true rfl)) dX12_league_181 ⟨Nat.le_of_ble_eq_true rfl, Nat.le_of_ble_eq_true rfl⟩) hS (fun q _ h => hFc q h) hFc (fun x_64 u9 t9 H1 locs ht hvm hw_64 hB hz1 hk1 hS => ?_)
                        obtain ⟨hP1, hK1, hD1⟩ := hB
                        rw [ht] at hP1
                        clear hK1
                        try dsimp only at hw_64
                        have hpd9 : PDx (dC, dI) classes A H1 [cI aC m_refused 7 mr, cI aC m_kind 9 kf, cI aC m_figure 9 ff, cI aC m_setting 5 stf, cI aC m_offer 81 u_19, cI aC m_gets 90 u_20, cI aC m_yes 9 u_21, cI aC m_buys 9 u_22, cI aC m_ends 9 u_23, cI aC m_carried 9 u_24, cI aC m_price 81 u_18, cI aC m_weight 9 wf, oX12 g0 m_refused m_kind m_figure m_weight m_got m_setting (nI n) (nI sn) dn m_tape m_letter m_letterAt m_told tp mat stm m_kept him ki crs m_price m_offer m_gets m_yes m_buys m_ends m_carried m_row rm m_keptRow m_likeGets m_likePrice m_ahead] := jn_N (wr := [cI aC m_refused 7 mr, cI aC m_kind 9 kf, cI aC m_figure 9 ff, cI aC m_setting 5 stf, cI aC m_offer 81 u_19, cI aC m_gets 90 u_20, cI aC m_yes 9 u_21, cI aC m_buys 9 u_22, cI aC m_ends 9 u_23, cI aC m_carried 9 u_24, cI aC m_price 81 u_18, cI aC m_weight 9 wf]) hFc hk1 hP1 hD1 hP hD [11] [0, 1, 2, 3, 4, 5, 6, 7, 8, 9, 10, 12] rfl rfl (by decide) (by decide)
                        have hP := hpd9.1
                        have hD := hpd9.2
                        clear hpd9
                        generalize H1 = H at hP hS ⊢
                        clear hPc hDc hFc hz1 hk1 hP1 hD1 ht hvm
                        have hwl := hw_64
                        have hpd9 := pdf_N (cx := [oX12 g0 m_refused m_kind m_figure m_weight m_got m_setting (nI n) (nI sn) dn m_tape m_letter m_letterAt m_told tp mat stm m_kept him ki crs m_price m_offer m_gets m_yes m_buys m_ends m_carried m_row rm m_keptRow m_likeGets m_likePrice m_ahead, cI aC m_weight 9 wf]) hP hD hS hA [12, 11] (by decide) rfl
                        have hPc := hpd9.1
                        have hDc := hpd9.2.1
                        have hFc := hpd9.2.2
                        clear hpd9
                        refine va_calli (va_runV (As := [Value.int x_64]) (rest := [Value.int (nI (W0 sn + LGW (zP (PO n K F W0 S5) sn) W0 v (lgS (zP (PO n K F W0 S5) sn) v sn (n - 1 - sn)) sn (n - 1 - sn) x.testBit)), Value.int (stf 1)]) ⟨hx, hb, hml, hown, hts⟩ (c_X12_weightOf l dC dI aC H.size g0 m_refused m_kind m_figure m_weight m_got m_setting m_tape m_letter m_letterAt m_told m_kept m_price m_offer m_gets m_yes m_buys m_ends m_carried m_row m_keptRow m_likeGets m_likePrice m_ahead (nI sn) dn tp mat stm him ki crs rm n wf W0 x_64 (HW_of hev.1)) ⟨(callB_of 1 hts (gG kw_930) rfl rfl rfl (hts _ (gw kw_13 rfl)) (hts _ (gw kw_927 rfl)) hd_X12_weightOf ⟨Nat.le_of_ble_eq_true rfl, Nat.le_of_ble_eq_true rfl⟩), (hts _ (gw kw_929 rfl)), (hts _ (gw ks_52 rfl))⟩ ⟨fb_std, va_recv (q := (RX12, TX12, 33)) hK hPc (ci := 12) (q0 := 0) rfl rfl, pre_std hPc hK hDc hN⟩ rfl rfl hl.1 rfl (lv_room (Nat.le_of_ble_eq_true rfl)) dX12_league_184 ⟨Nat.le_of_ble_eq_true rfl, Nat.le_of_ble_eq_true rfl⟩) hS (fun q _ h => hFc q h) hFc (fun x_65 u9 t9 H1 locs ht hvm hw_65 hB hz1 hk1 hS => ?_)
                        obtain ⟨hP1, hK1, hD1⟩ := hB
                        rw [ht] at hP1
                        clear hK1
                        try dsimp only at hw_65
                        have hpd9 : PDx (dC, dI) classes A H1 [cI aC m_refused 7 mr, cI aC m_kind 9 kf, cI aC m_figure 9 ff, cI aC m_setting 5 stf, cI aC m_offer 81 u_19, cI aC m_gets 90 u_20, cI aC m_yes 9 u_21, cI aC m_buys 9 u_22, cI aC m_ends 9 u_23, cI aC m_carried 9 u_24, cI aC m_price 81 u_18, oX12 g0 m_refused m_kind m_figure m_weight m_got m_setting (nI n) (nI sn) dn m_tape m_letter m_letterAt m_told tp mat stm m_kept him ki crs m_price m_offer m_gets m_yes m_buys m_ends m_carried m_row rm m_keptRow m_likeGets m_likePrice m_ahead, cI aC m_weight 9 wf] := jn_N (wr := [cI aC m_refused 7 mr, cI aC m_kind 9 kf, cI aC m_figure 9 ff, cI aC m_setting 5 stf, cI aC m_offer 81 u_19, cI aC m_gets 90 u_20, cI aC m_yes 9 u_21, cI aC m_buys 9 u_22, cI aC m_ends 9 u_23, cI aC m_carried 9 u_24, cI aC m_price 81 u_18]) hFc hk1 hP1 hD1 hP hD [12, 11] [0, 1, 2, 3, 4, 5, 6, 7, 8, 9, 10] rfl rfl (by decide) (by decide)
                        have hP := hpd9.1
                        have hD := hpd9.2
                        clear hpd9
                        generalize H1 = H at hP hS ⊢
                        clear hPc hDc hFc hz1 hk1 hP1 hD1 ht hvm
                        have h9 : x_65 = nI (sumr W0 sn (n - sn)) := by rw [hw_65, yw_left (by omega) hn8 hwl]
                        subst h9
                        have hpd9 := pdf_N (cx := []) hP hD hS hA [] (by decide) rfl
                        have hPc := hpd9.1
                        have hDc := hpd9.2.1
                        have hFc := hpd9.2.2
                        clear hpd9
                        refine va_calli (va_runS (As := [Value.int (stf 1), Value.int (nI (W0 sn + LGW (zP (PO n K F W0 S5) sn) W0 v (lgS (zP (PO n K F W0 S5) sn) v sn (n - 1 - sn)) sn (n - 1 - sn) x.testBit)), Value.int (nI (sumr W0 sn (n - sn)))]) (rest := []) ⟨hx, hb, hml, hown, hts⟩ (c_X12_isCarried l dC dI aC H.size (stf 1) (W0 sn + LGW (zP (PO n K F W0 S5) sn) W0 v (lgS (zP (PO n K F W0 S5) sn) v sn (n - 1 - sn)) sn (n - 1 - sn) x.testBit) (sumr W0 sn (n - sn)) (by omega) (by omega)) ⟨(callB_of 3 hts (gG kw_933) rfl rfl rfl (hts _ (gw kw_13 rfl)) (hts _ (gw kw_931 rfl)) hd_X12_isCarried ⟨Nat.le_of_ble_eq_true rfl, Nat.le_of_ble_eq_true rfl⟩), (hts _ (gw kw_932 rfl))⟩ ⟨fb_std, pre_std hPc hK hDc hN⟩ rfl rfl hl.1 rfl (lv_room (Nat.le_of_ble_eq_true rfl)) dX12_league_187 ⟨Nat.le_of_ble_eq_true rfl, Nat.le_of_ble_eq_true rfl⟩) hS (fun q _ h => hFc q h) hFc (fun x_66 u9 t9 H1 locs ht hvm hw_66 hB hz1 hk1 hS => ?_)
                        obtain ⟨hP1, hK1, hD1⟩ := hB
                        rw [ht] at hP1
                        clear hK1
                        try dsimp only at hw_66
                        have hpd9 : PDx (dC, dI) classes A H1 [cI aC m_refused 7 mr, cI aC m_kind 9 kf, cI aC m_figure 9 ff, cI aC m_setting 5 stf, cI aC m_offer 81 u_19, cI aC m_gets 90 u_20, cI aC m_yes 9 u_21, cI aC m_buys 9 u_22, cI aC m_ends 9 u_23, cI aC m_carried 9 u_24, cI aC m_price 81 u_18, oX12 g0 m_refused m_kind m_figure m_weight m_got m_setting (nI n) (nI sn) dn m_tape m_letter m_letterAt m_told tp mat stm m_kept him ki crs m_price m_offer m_gets m_yes m_buys m_ends m_carried m_row rm m_keptRow m_likeGets m_likePrice m_ahead, cI aC m_weight 9 wf] := jn_N (wr := [cI aC m_refused 7 mr, cI aC m_kind 9 kf, cI aC m_figure 9 ff, cI aC m_setting 5 stf, cI aC m_offer 81 u_19, cI aC m_gets 90 u_20, cI aC m_yes 9 u_21, cI aC m_buys 9 u_22, cI aC m_ends 9 u_23, cI aC m_carried 9 u_24, cI aC m_price 81 u_18, oX12 g0 m_refused m_kind m_figure m_weight m_got m_setting (nI n) (nI sn) dn m_tape m_letter m_letterAt m_told tp mat stm m_kept him ki crs m_price m_offer m_gets m_yes m_buys m_ends m_carried m_row rm m_keptRow m_likeGets m_likePrice m_ahead, cI aC m_weight 9 wf]) hFc hk1 hP1 hD1 hP hD [] [0, 1, 2, 3, 4, 5, 6, 7, 8, 9, 10, 11, 12] rfl rfl (by decide) (by decide)
                        have hP := hpd9.1
                        have hD := hpd9.2
                        clear hpd9
                        generalize H1 = H at hP hS ⊢
                        clear hPc hDc hFc hz1 hk1 hP1 hD1 ht hvm
                        have hz_187 := hw_66
                        refine lv_if_eq (tgt := 195) hx hb dX12_league_190 (by decide) (fun c_67 => ?_) (fun c_67 => ?_)
                        · have hno2 : ∀ z, z < x + 1 → ¬ QM n W0 (stf 1) (S5 0) sn (zP (PO n K F W0 S5) sn) v z := fun z hz => by
                            by_cases e : z = x
                            · rw [e]
                              exact fun q => absurd (hz_187.symm.trans c_67) (by rw [if_pos q.2.2.2]; decide)
                            · exact hno z (by omega)
                          obtain ⟨x_68, e_68⟩ : ∃ y : Int32, y = (nI x) + 1 := ⟨_, rfl⟩
                          refine lv_iinc (v := x_68) (lv' := [(4, Value.int x_68), (5, Value.int x_55), (0, Value.ref g0), (1, Value.int v), (2, Value.int x_6), (3, Value.int x_27)]) hx hb dX12_league_195 hl (k := 5) rfl (by rw [e_68]; rfl) (by decide) rfl (fun ls hl => ?_)
                          have h9 : x_68 = nI (x + 1) := by rw [e_68, nI_1]
                          subst h9
                          refine lv_goto (tgt := 78) hx hb dX12_league_198 (by decide) ?_
                          exact ih_78 (x + 1) (by omega) (by omega) (hno2) _ _ _ (hP.sub [0, 1, 2, 12, 3, 4, 5, 6, 7, 8, 9, 11, 10] rfl) (hD.sub [0, 1, 2, 12, 3, 4, 5, 6, 7, 8, 9, 11, 10] (by decide) rfl) hS (lv_sub hl [2, 3, 4, 5, 0] rfl)
                        · have hcar : nd (stf 1) (sumr W0 sn (n - sn)) ≤ (W0 sn + LGW (zP (PO n K F W0 S5) sn) W0 v (lgS (zP (PO n K F W0 S5) sn) v sn (n - 1 - sn)) sn (n - 1 - sn) x.testBit) := by
                            by_cases q : nd (stf 1) (sumr W0 sn (n - sn)) ≤ (W0 sn + LGW (zP (PO n K F W0 S5) sn) W0 v (lgS (zP (PO n K F W0 S5) sn) v sn (n - 1 - sn)) sn (n - 1 - sn) x.testBit)
                            · exact q
                            · exact absurd (by rw [hz_187, if_neg q]) c_67
                          refine lv_iconst (v := 1) hx hb dX12_league_193 (by decide) ?_
                          have hpd9 := pd_N (cx := [oX12 g0 m_refused m_kind m_figure m_weight m_got m_setting (nI n) (nI sn) dn m_tape m_letter m_letterAt m_told tp mat stm m_kept him ki crs m_price m_offer m_gets m_yes m_buys m_ends m_carried m_row rm m_keptRow m_likeGets m_likePrice m_ahead, cI aC m_kind 9 kf, cI aC m_figure 9 ff, cI aC m_weight 9 wf, cI aC m_setting 5 stf, cI aC m_price 81 u_18, cI aC m_offer 81 u_19, cI aC m_gets 90 u_20, cI aC m_yes 9 u_21, cI aC m_buys 9 u_22, cI aC m_ends 9 u_23, cI aC m_carried 9 u_24, cI aC m_refused 7 mr]) hP hD [11, 1, 2, 12, 3, 10, 4, 5, 6, 7, 8, 9, 0] (by decide) rfl
                          have hP9 := hpd9.1
                          have hD9 := hpd9.2
                          refine W.widen (k := 0) (n := 0) (by omega) (by omega) ?_
                          exact W.iret (v := 1) hx hb hr (fun t ht hW => ⟨⟨1, (u_18, u_19, u_20, u_21, u_22, u_23, u_24, mr), rfl, LGR_1 hov hM ((LG_m hM1).mp ⟨x, hlx, by rw [← hs1]; exact ⟨hB, hd, hc9, hcar⟩⟩), by rw [ht]; exact hP9, va_K.moved hW.alike hK, hD9⟩, hS.F ht⟩) hS.2.2 dX12_league_194
                  · refine lv_iload_n hx hb dX12_league_105 rfl (lv_at hl 1 rfl) ?_
                    refine lv_iload hx hb dX12_league_106 (lv_at hl 4 rfl) ?_
                    refine lv_iconst (v := -1) hx hb dX12_league_108 (by decide) ?_
                    refine lv_ixor hx hb dX12_league_109 ?_
                    refine lv_topi (fun x_69 e_69 => ?_)
                    refine lv_iand hx hb dX12_league_110 ?_
                    refine lv_topi (fun x_70 e_70 => ?_)
                    refine lv_if_eq (tgt := 117) hx hb dX12_league_111 (by decide) (fun c_71 => ?_) (fun c_71 => ?_)
                    · have hd : (∀ q, bt v q = true → x.testBit q = false) ∨ (∀ q, bt v q = true → x.testBit q = true) := Or.inr ((lg_sub0 hn8 hlx hM1).mp (by rw [← e_69, ← e_70]; exact c_71))
                      refine lv_iload hx hb dX12_league_117 (lv_at hl 4 rfl) ?_
                      refine lv_iload_n hx hb dX12_league_119 rfl (lv_at hl 3 rfl) ?_
                      refine lv_ior hx hb dX12_league_120 ?_
                      refine lv_topi (fun x_72 e_72 => ?_)
                      refine lv_iconst (v := 1) hx hb dX12_league_121 (by decide) ?_
                      refine lv_aload_n hx hb dX12_league_122 rfl (lv_at hl 0 rfl) ?_
                      refine va_get (D := (dC, dI)) (ci := 12) (v := Value.int (nI sn)) (C := RX12) (T := TX12) (N := 33) hx hb hts inX12 hown hK hP 11 rfl rfl 7 (by decide) (hts _ (gw kw_724 rfl)) (fun _ h9 => h9) rfl dX12_league_123 ?_
                      refine lv_ishl hx hb dX12_league_126 ?_
                      refine lv_topi (fun x_73 e_73 => ?_)
                      refine lv_ior hx hb dX12_league_127 ?_
                      refine lv_topi (fun x_74 e_74 => ?_)
                      refine lv_aload_n hx hb dX12_league_128 rfl (lv_at hl 0 rfl) ?_
                      refine lv_iload_n hx hb dX12_league_129 rfl (lv_at hl 1 rfl) ?_
                      have hpd9 := pdf_N (cx := [oX12 g0 m_refused m_kind m_figure m_weight m_got m_setting (nI n) (nI sn) dn m_tape m_letter m_letterAt m_told tp mat stm m_kept him ki crs m_price m_offer m_gets m_yes m_buys m_ends m_carried m_row rm m_keptRow m_likeGets m_likePrice m_ahead, cI aC m_price 81 u_18]) hP hD hS hA [11, 12] (by decide) rfl
                      have hPc := hpd9.1
                      have hDc := hpd9.2.1
                      have hFc := hpd9.2.2
                      clear hpd9
                      refine va_calli (va_runV (As := [Value.int v]) (rest := [Value.int x_74]) ⟨hx, hb, hml, hown, hts⟩ (c_X12_isFree l dC dI aC H.size g0 m_refused m_kind m_figure m_weight m_got m_setting m_tape m_letter m_letterAt m_told m_kept m_price m_offer m_gets m_yes m_buys m_ends m_carried m_row m_keptRow m_likeGets m_likePrice m_ahead tp mat stm him ki crs rm n sn dn u_18 v (zP (PO n K F W0 S5) sn) (hn8) (hsn) (fun q h1 h2 => ⟨(hm1 sn hsn).1 q h1 h2, zP_le (PO_cl hev) (HF_of hev.1) h1 h2⟩)) ⟨(callB_of 1 hts (gG kw_1073) rfl rfl rfl (hts _ (gw kw_13 rfl)) (hts _ (gw kw_1070 rfl)) hd_X12_isFree ⟨Nat.le_of_ble_eq_true rfl, Nat.le_of_ble_eq_true rfl⟩), (hts _ (gw kw_1072 rfl)), (hts _ (gw ks_67 rfl))⟩ ⟨fb_std, va_recv (q := (RX12, TX12, 33)) hK hPc (ci := 12) (q0 := 0) rfl rfl, pre_std hPc hK hDc hN⟩ rfl rfl hl.1 rfl (lv_room (Nat.le_of_ble_eq_true rfl)) dX12_league_130 ⟨Nat.le_of_ble_eq_true rfl, Nat.le_of_ble_eq_true rfl⟩) hS (fun q _ h => hFc q h) hFc (fun x_75 u9 t9 H1 locs ht hvm hw_75 hB hz1 hk1 hS => ?_)
                      obtain ⟨hP1, hK1, hD1⟩ := hB
                      rw [ht] at hP1
                      clear hK1
                      try dsimp only at hw_75
                      have hpd9 : PDx (dC, dI) classes A H1 [cI aC m_refused 7 mr, cI aC m_kind 9 kf, cI aC m_figure 9 ff, cI aC m_weight 9 wf, cI aC m_setting 5 stf, cI aC m_offer 81 u_19, cI aC m_gets 90 u_20, cI aC m_yes 9 u_21, cI aC m_buys 9 u_22, cI aC m_ends 9 u_23, cI aC m_carried 9 u_24, oX12 g0 m_refused m_kind m_figure m_weight m_got m_setting (nI n) (nI sn) dn m_tape m_letter m_letterAt m_told tp mat stm m_kept him ki crs m_price m_offer m_gets m_yes m_buys m_ends m_carried m_row rm m_keptRow m_likeGets m_likePrice m_ahead, cI aC m_price 81 u_18] := jn_N (wr := [cI aC m_refused 7 mr, cI aC m_kind 9 kf, cI aC m_figure 9 ff, cI aC m_weight 9 wf, cI aC m_setting 5 stf, cI aC m_offer 81 u_19, cI aC m_gets 90 u_20, cI aC m_yes 9 u_21, cI aC m_buys 9 u_22, cI aC m_ends 9 u_23, cI aC m_carried 9 u_24]) hFc hk1 hP1 hD1 hP hD [11, 12] [0, 1, 2, 3, 4, 5, 6, 7, 8, 9, 10] rfl rfl (by decide) (by decide)
                      have hP := hpd9.1
                      have hD := hpd9.2
                      clear hpd9
                      generalize H1 = H at hP hS ⊢
                      clear hPc hDc hFc hz1 hk1 hP1 hD1 ht hvm
                      have hif := hw_75
                      refine lv_if_eq (tgt := 140) hx hb dX12_league_133 (by decide) (fun c_76 => ?_) (fun c_76 => ?_)
                      · refine lv_iconst (v := 0) hx hb dX12_league_140 (by decide) ?_
                        refine lv_ior hx hb dX12_league_141 ?_
                        refine lv_topi (fun x_77 e_77 => ?_)
                        refine lv_istore (lv' := [(5, Value.int x_77), (0, Value.ref g0), (1, Value.int v), (2, Value.int x_6), (3, Value.int x_27), (4, Value.int (nI x))]) hx hb dX12_league_142 hl (by decide) rfl (fun ls hl => ?_)
                        have hwx := lg_wx (x := x_77) (fr := lgS (zP (PO n K F W0 S5) sn) v sn (n - 1 - sn)) ⟨hsn, hn8⟩ hlx hfr (by rw [e_77, e_74, e_72, e_73]) (Or.inr ⟨rfl, (hif.resolve_left (fun q => absurd (q.1.symm.trans c_76) (by decide))).2⟩)
                        refine lv_aload_n hx hb dX12_league_144 rfl (lv_at hl 1 rfl) ?_
                        refine lv_aload_n hx hb dX12_league_145 rfl (lv_at hl 1 rfl) ?_
                        refine va_get (D := (dC, dI)) (ci := 12) (v := Value.int (nI sn)) (C := RX12) (T := TX12) (N := 33) hx hb hts inX12 hown hK hP 11 rfl rfl 7 (by decide) (hts _ (gw kw_724 rfl)) (fun _ h9 => h9) rfl dX12_league_146 ?_
                        refine lv_iload hx hb dX12_league_149 (lv_at hl 5 rfl) ?_
                        have hpd9 := pdf_N (cx := [oX12 g0 m_refused m_kind m_figure m_weight m_got m_setting (nI n) (nI sn) dn m_tape m_letter m_letterAt m_told tp mat stm m_kept him ki crs m_price m_offer m_gets m_yes m_buys m_ends m_carried m_row rm m_keptRow m_likeGets m_likePrice m_ahead, cI aC m_price 81 u_18]) hP hD hS hA [11, 12] (by decide) rfl
                        have hPc := hpd9.1
                        have hDc := hpd9.2.1
                        have hFc := hpd9.2.2
                        clear hpd9
                        refine va_calli (va_runV (As := [Value.int (nI sn), Value.int (nI x)]) (rest := []) ⟨hx, hb, hml, hown, hts⟩ (c_X12_costOf l dC dI aC H.size g0 m_refused m_kind m_figure m_weight m_got m_setting m_tape m_letter m_letterAt m_told m_kept m_price m_offer m_gets m_yes m_buys m_ends m_carried m_row m_keptRow m_likeGets m_likePrice m_ahead (nI sn) dn tp mat stm him ki crs rm n u_18 (zP (PO n K F W0 S5) sn) sn (nI x) (by omega) (fun q h1 h2 => ⟨(hm1 sn hsn).1 q h1 h2, zP_le (PO_cl hev) (HF_of hev.1) h1 h2⟩)) ⟨(callB_of 2 hts (gG kw_937) rfl rfl rfl (hts _ (gw kw_13 rfl)) (hts _ (gw kw_934 rfl)) hd_X12_costOf ⟨Nat.le_of_ble_eq_true rfl, Nat.le_of_ble_eq_true rfl⟩), (hts _ (gw kw_936 rfl)), (hts _ (gw ks_53 rfl))⟩ ⟨fb_std, va_recv (q := (RX12, TX12, 33)) hK hPc (ci := 12) (q0 := 0) rfl rfl, pre_std hPc hK hDc hN⟩ rfl rfl hl.1 rfl (lv_room (Nat.le_of_ble_eq_true rfl)) dX12_league_151 ⟨Nat.le_of_ble_eq_true rfl, Nat.le_of_ble_eq_true rfl⟩) hS (fun q _ h => hFc q h) hFc (fun x_78 u9 t9 H1 locs ht hvm hw_78 hB hz1 hk1 hS => ?_)
                        obtain ⟨hP1, hK1, hD1⟩ := hB
                        rw [ht] at hP1
                        clear hK1
                        try dsimp only at hw_78
                        have hpd9 : PDx (dC, dI) classes A H1 [cI aC m_refused 7 mr, cI aC m_kind 9 kf, cI aC m_figure 9 ff, cI aC m_weight 9 wf, cI aC m_setting 5 stf, cI aC m_offer 81 u_19, cI aC m_gets 90 u_20, cI aC m_yes 9 u_21, cI aC m_buys 9 u_22, cI aC m_ends 9 u_23, cI aC m_carried 9 u_24, oX12 g0 m_refused m_kind m_figure m_weight m_got m_setting (nI n) (nI sn) dn m_tape m_letter m_letterAt m_told tp mat stm m_kept him ki crs m_price m_offer m_gets m_yes m_buys m_ends m_carried m_row rm m_keptRow m_likeGets m_likePrice m_ahead, cI aC m_price 81 u_18] := jn_N (wr := [cI aC m_refused 7 mr, cI aC m_kind 9 kf, cI aC m_figure 9 ff, cI aC m_weight 9 wf, cI aC m_setting 5 stf, cI aC m_offer 81 u_19, cI aC m_gets 90 u_20, cI aC m_yes 9 u_21, cI aC m_buys 9 u_22, cI aC m_ends 9 u_23, cI aC m_carried 9 u_24]) hFc hk1 hP1 hD1 hP hD [11, 12] [0, 1, 2, 3, 4, 5, 6, 7, 8, 9, 10] rfl rfl (by decide) (by decide)
                        have hP := hpd9.1
                        have hD := hpd9.2
                        clear hpd9
                        generalize H1 = H at hP hS ⊢
                        clear hPc hDc hFc hz1 hk1 hP1 hD1 ht hvm
                        have hcl := cstm_le (Pq := (zP (PO n K F W0 S5) sn)) (n := n) (i := sn) (s := x) hn8 (fun q h1 h2 => zP_le (PO_cl hev) (HF_of hev.1) h1 h2)
                        have h9 : x_78 = nI (cstm (zP (PO n K F W0 S5) sn) n sn x) := by rw [hw_78, yw_cstm hn8 hsn hlx]
                        subst h9
                        refine lv_aload_n hx hb dX12_league_154 rfl (lv_at hl 1 rfl) ?_
                        refine va_get (D := (dC, dI)) (ci := 12) (v := Value.ref m_setting) (C := RX12) (T := TX12) (N := 33) hx hb hts inX12 hown hK hP 11 rfl rfl 5 (by decide) (hts _ (gw kw_722 rfl)) (fun _ h9 => h9) rfl dX12_league_155 ?_
                        refine lv_iconst (v := 0) hx hb dX12_league_158 (by decide) ?_
                        have h_79 : vp_in 0 5 := by unfold vp_in; decide
                        refine va_iald hx hb hK hP 4 0 rfl rfl h_79 dX12_league_159 ?_
                        refine lv_topi (fun x_80 e_80 => ?_)
                        have h9 : x_80 = nI (S5 0) := by rw [e_80]; exact hev.2.1 0 (by omega)
                        subst h9
                        refine lv_icmp_gt (tgt := 195) hx hb dX12_league_160 (by decide) (fun c_81 => ?_) (fun c_81 => ?_)
                        · have hno2 : ∀ z, z < x + 1 → ¬ QM n W0 (stf 1) (S5 0) sn (zP (PO n K F W0 S5) sn) v z := fun z hz => by
                            by_cases e : z = x
                            · rw [e]
                              exact fun q => by have h7 := (nI_ltI (by omega) (by omega)).mp c_81; have h8 := q.2.2.1; omega
                            · exact hno z (by omega)
                          obtain ⟨x_82, e_82⟩ : ∃ y : Int32, y = (nI x) + 1 := ⟨_, rfl⟩
                          refine lv_iinc (v := x_82) (lv' := [(4, Value.int x_82), (5, Value.int x_77), (0, Value.ref g0), (1, Value.int v), (2, Value.int x_6), (3, Value.int x_27)]) hx hb dX12_league_195 hl (k := 5) rfl (by rw [e_82]; rfl) (by decide) rfl (fun ls hl => ?_)
                          have h9 : x_82 = nI (x + 1) := by rw [e_82, nI_1]
                          subst h9
                          refine lv_goto (tgt := 78) hx hb dX12_league_198 (by decide) ?_
                          exact ih_78 (x + 1) (by omega) (by omega) (hno2) _ _ _ (hP.sub [0, 1, 2, 3, 4, 5, 6, 7, 8, 9, 10, 11, 12] rfl) (hD.sub [0, 1, 2, 3, 4, 5, 6, 7, 8, 9, 10, 11, 12] (by decide) rfl) hS (lv_sub hl [2, 3, 4, 5, 0] rfl)
                        · have hc9 : cstm (zP (PO n K F W0 S5) sn) n sn x ≤ S5 0 := Nat.le_of_not_lt fun q => c_81 (nI_lt q (by omega))
                          refine lv_aload_n hx hb dX12_league_163 rfl (lv_at hl 1 rfl) ?_
                          refine va_get (D := (dC, dI)) (ci := 12) (v := Value.ref m_setting) (C := RX12) (T := TX12) (N := 33) hx hb hts inX12 hown hK hP 11 rfl rfl 5 (by decide) (hts _ (gw kw_722 rfl)) (fun _ h9 => h9) rfl dX12_league_164 ?_
                          refine lv_iconst (v := 1) hx hb dX12_league_167 (by decide) ?_
                          have h_83 : vp_in 1 5 := by unfold vp_in; decide
                          refine va_iald hx hb hK hP 4 0 rfl rfl h_83 dX12_league_168 ?_
                          refine lv_topi (fun x_84 e_84 => ?_)
                          have h9 : x_84 = (stf 1) := by rw [e_84]; rfl
                          subst h9
                          refine lv_aload_n hx hb dX12_league_169 rfl (lv_at hl 1 rfl) ?_
                          refine lv_iload hx hb dX12_league_170 (lv_at hl 0 rfl) ?_
                          have hpd9 := pdf_N (cx := [oX12 g0 m_refused m_kind m_figure m_weight m_got m_setting (nI n) (nI sn) dn m_tape m_letter m_letterAt m_told tp mat stm m_kept him ki crs m_price m_offer m_gets m_yes m_buys m_ends m_carried m_row rm m_keptRow m_likeGets m_likePrice m_ahead, cI aC m_weight 9 wf]) hP hD hS hA [11, 3] (by decide) rfl
                          have hPc := hpd9.1
                          have hDc := hpd9.2.1
                          have hFc := hpd9.2.2
                          clear hpd9
                          refine va_calli (va_runV (As := [Value.int x_77]) (rest := [Value.int (stf 1)]) ⟨hx, hb, hml, hown, hts⟩ (c_X12_weightOf l dC dI aC H.size g0 m_refused m_kind m_figure m_weight m_got m_setting m_tape m_letter m_letterAt m_told m_kept m_price m_offer m_gets m_yes m_buys m_ends m_carried m_row m_keptRow m_likeGets m_likePrice m_ahead (nI sn) dn tp mat stm him ki crs rm n wf W0 x_77 (HW_of hev.1)) ⟨(callB_of 1 hts (gG kw_930) rfl rfl rfl (hts _ (gw kw_13 rfl)) (hts _ (gw kw_927 rfl)) hd_X12_weightOf ⟨Nat.le_of_ble_eq_true rfl, Nat.le_of_ble_eq_true rfl⟩), (hts _ (gw kw_929 rfl)), (hts _ (gw ks_52 rfl))⟩ ⟨fb_std, va_recv (q := (RX12, TX12, 33)) hK hPc (ci := 12) (q0 := 0) rfl rfl, pre_std hPc hK hDc hN⟩ rfl rfl hl.1 rfl (lv_room (Nat.le_of_ble_eq_true rfl)) dX12_league_172 ⟨Nat.le_of_ble_eq_true rfl, Nat.le_of_ble_eq_true rfl⟩) hS (fun q _ h => hFc q h) hFc (fun x_85 u9 t9 H1 locs ht hvm hw_85 hB hz1 hk1 hS => ?_)
                          obtain ⟨hP1, hK1, hD1⟩ := hB
                          rw [ht] at hP1
                          clear hK1
                          try dsimp only at hw_85
                          have hpd9 : PDx (dC, dI) classes A H1 [cI aC m_refused 7 mr, cI aC m_kind 9 kf, cI aC m_figure 9 ff, cI aC m_setting 5 stf, cI aC m_offer 81 u_19, cI aC m_gets 90 u_20, cI aC m_yes 9 u_21, cI aC m_buys 9 u_22, cI aC m_ends 9 u_23, cI aC m_carried 9 u_24, cI aC m_price 81 u_18, oX12 g0 m_refused m_kind m_figure m_weight m_got m_setting (nI n) (nI sn) dn m_tape m_letter m_letterAt m_told tp mat stm m_kept him ki crs m_price m_offer m_gets m_yes m_buys m_ends m_carried m_row rm m_keptRow m_likeGets m_likePrice m_ahead, cI aC m_weight 9 wf] := jn_N (wr := [cI aC m_refused 7 mr, cI aC m_kind 9 kf, cI aC m_figure 9 ff, cI aC m_setting 5 stf, cI aC m_offer 81 u_19, cI aC m_gets 90 u_20, cI aC m_yes 9 u_21, cI aC m_buys 9 u_22, cI aC m_ends 9 u_23, cI aC m_carried 9 u_24, cI aC m_price 81 u_18]) hFc hk1 hP1 hD1 hP hD [11, 3] [0, 1, 2, 4, 5, 6, 7, 8, 9, 10, 12] rfl rfl (by decide) (by decide)
                          have hP := hpd9.1
                          have hD := hpd9.2
                          clear hpd9
                          generalize H1 = H at hP hS ⊢
                          clear hPc hDc hFc hz1 hk1 hP1 hD1 ht hvm
                          have hWT := lg_yw (W := W0) (P := (zP (PO n K F W0 S5) sn)) (x := x_77) hsn hB hM1 hwx
                          have hy9 := yw_le (W := W0) (y := x_77) (a := 0) (k := n) (fun j q => ((HW_of hev.1).2 j q).2) (by omega) hn8
                          rw [hWT] at hy9
                          have h9 : x_85 = nI (W0 sn + LGW (zP (PO n K F W0 S5) sn) W0 v (lgS (zP (PO n K F W0 S5) sn) v sn (n - 1 - sn)) sn (n - 1 - sn) x.testBit) := by rw [hw_85, hWT]
                          subst h9
                          refine lv_aload_n hx hb dX12_league_175 rfl (lv_at hl 1 rfl) ?_
                          refine lv_aload_n hx hb dX12_league_176 rfl (lv_at hl 1 rfl) ?_
                          refine lv_aload_n hx hb dX12_league_177 rfl (lv_at hl 1 rfl) ?_
                          refine va_get (D := (dC, dI)) (ci := 12) (v := Value.int (nI sn)) (C := RX12) (T := TX12) (N := 33) hx hb hts inX12 hown hK hP 11 rfl rfl 7 (by decide) (hts _ (gw kw_724 rfl)) (fun _ h9 => h9) rfl dX12_league_178 ?_
                          have hpd9 := pdf_N (cx := [oX12 g0 m_refused m_kind m_figure m_weight m_got m_setting (nI n) (nI sn) dn m_tape m_letter m_letterAt m_told tp mat stm m_kept him ki crs m_price m_offer m_gets m_yes m_buys m_ends m_carried m_row rm m_keptRow m_likeGets m_likePrice m_ahead]) hP hD hS hA [11] (by decide) rfl
                          have hPc := hpd9.1
                          have hDc := hpd9.2.1
                          have hFc := hpd9.2.2
                          clear hpd9
                          refine va_calli (va_runV (As := [Value.int (nI sn)]) (rest := [Value.ref g0, Value.int (nI (W0 sn + LGW (zP (PO n K F W0 S5) sn) W0 v (lgS (zP (PO n K F W0 S5) sn) v sn (n - 1 - sn)) sn (n - 1 - sn) x.testBit)), Value.int (stf 1)]) ⟨hx, hb, hml, hown, hts⟩ (c_X12_leftFrom l dC dI aC H.size g0 m_refused m_kind m_figure m_weight m_got m_setting m_tape m_letter m_letterAt m_told m_kept m_price m_offer m_gets m_yes m_buys m_ends m_carried m_row m_keptRow m_likeGets m_likePrice m_ahead (nI sn) dn tp mat stm him ki crs rm n sn (by omega)) ⟨(callB_of 1 hts (gG kw_922) rfl rfl rfl (hts _ (gw kw_13 rfl)) (hts _ (gw kw_919 rfl)) hd_X12_leftFrom ⟨Nat.le_of_ble_eq_true rfl, Nat.le_of_ble_eq_true rfl⟩), (hts _ (gw kw_921 rfl)), (hts _ (gw ks_50 rfl))⟩ ⟨fb_std, va_recv (q := (RX12, TX12, 33)) hK hPc (ci := 12) (q0 := 0) rfl rfl, pre_std hPc hK hDc hN⟩ rfl rfl hl.1 rfl (lv_room (Nat.le_of_ble_eq_true rfl)) dX12_league_181 ⟨Nat.le_of_ble_eq_true rfl, Nat.le_of_ble_eq_true rfl⟩) hS (fun q _ h => hFc q h) hFc (fun x_86 u9 t9 H1 locs ht hvm hw_86 hB hz1 hk1 hS => ?_)
                          obtain ⟨hP1, hK1, hD1⟩ := hB
                          rw [ht] at hP1
                          clear hK1
                          try dsimp only at hw_86
                          have hpd9 : PDx (dC, dI) classes A H1 [cI aC m_refused 7 mr, cI aC m_kind 9 kf, cI aC m_figure 9 ff, cI aC m_setting 5 stf, cI aC m_offer 81 u_19, cI aC m_gets 90 u_20, cI aC m_yes 9 u_21, cI aC m_buys 9 u_22, cI aC m_ends 9 u_23, cI aC m_carried 9 u_24, cI aC m_price 81 u_18, cI aC m_weight 9 wf, oX12 g0 m_refused m_kind m_figure m_weight m_got m_setting (nI n) (nI sn) dn m_tape m_letter m_letterAt m_told tp mat stm m_kept him ki crs m_price m_offer m_gets m_yes m_buys m_ends m_carried m_row rm m_keptRow m_likeGets m_likePrice m_ahead] := jn_N (wr := [cI aC m_refused 7 mr, cI aC m_kind 9 kf, cI aC m_figure 9 ff, cI aC m_setting 5 stf, cI aC m_offer 81 u_19, cI aC m_gets 90 u_20, cI aC m_yes 9 u_21, cI aC m_buys 9 u_22, cI aC m_ends 9 u_23, cI aC m_carried 9 u_24, cI aC m_price 81 u_18, cI aC m_weight 9 wf]) hFc hk1 hP1 hD1 hP hD [11] [0, 1, 2, 3, 4, 5, 6, 7, 8, 9, 10, 12] rfl rfl (by decide) (by decide)
                          have hP := hpd9.1
                          have hD := hpd9.2
                          clear hpd9
                          generalize H1 = H at hP hS ⊢
                          clear hPc hDc hFc hz1 hk1 hP1 hD1 ht hvm
                          have hwl := hw_86
                          have hpd9 := pdf_N (cx := [oX12 g0 m_refused m_kind m_figure m_weight m_got m_setting (nI n) (nI sn) dn m_tape m_letter m_letterAt m_told tp mat stm m_kept him ki crs m_price m_offer m_gets m_yes m_buys m_ends m_carried m_row rm m_keptRow m_likeGets m_likePrice m_ahead, cI aC m_weight 9 wf]) hP hD hS hA [12, 11] (by decide) rfl
                          have hPc := hpd9.1
                          have hDc := hpd9.2.1
                          have hFc := hpd9.2.2
                          clear hpd9
                          refine va_calli (va_runV (As := [Value.int x_86]) (rest := [Value.int (nI (W0 sn + LGW (zP (PO n K F W0 S5) sn) W0 v (lgS (zP (PO n K F W0 S5) sn) v sn (n - 1 - sn)) sn (n - 1 - sn) x.testBit)), Value.int (stf 1)]) ⟨hx, hb, hml, hown, hts⟩ (c_X12_weightOf l dC dI aC H.size g0 m_refused m_kind m_figure m_weight m_got m_setting m_tape m_letter m_letterAt m_told m_kept m_price m_offer m_gets m_yes m_buys m_ends m_carried m_row m_keptRow m_likeGets m_likePrice m_ahead (nI sn) dn tp mat stm him ki crs rm n wf W0 x_86 (HW_of hev.1)) ⟨(callB_of 1 hts (gG kw_930) rfl rfl rfl (hts _ (gw kw_13 rfl)) (hts _ (gw kw_927 rfl)) hd_X12_weightOf ⟨Nat.le_of_ble_eq_true rfl, Nat.le_of_ble_eq_true rfl⟩), (hts _ (gw kw_929 rfl)), (hts _ (gw ks_52 rfl))⟩ ⟨fb_std, va_recv (q := (RX12, TX12, 33)) hK hPc (ci := 12) (q0 := 0) rfl rfl, pre_std hPc hK hDc hN⟩ rfl rfl hl.1 rfl (lv_room (Nat.le_of_ble_eq_true rfl)) dX12_league_184 ⟨Nat.le_of_ble_eq_true rfl, Nat.le_of_ble_eq_true rfl⟩) hS (fun q _ h => hFc q h) hFc (fun x_87 u9 t9 H1 locs ht hvm hw_87 hB hz1 hk1 hS => ?_)
                          obtain ⟨hP1, hK1, hD1⟩ := hB
                          rw [ht] at hP1
                          clear hK1
                          try dsimp only at hw_87
                          have hpd9 : PDx (dC, dI) classes A H1 [cI aC m_refused 7 mr, cI aC m_kind 9 kf, cI aC m_figure 9 ff, cI aC m_setting 5 stf, cI aC m_offer 81 u_19, cI aC m_gets 90 u_20, cI aC m_yes 9 u_21, cI aC m_buys 9 u_22, cI aC m_ends 9 u_23, cI aC m_carried 9 u_24, cI aC m_price 81 u_18, oX12 g0 m_refused m_kind m_figure m_weight m_got m_setting (nI n) (nI sn) dn m_tape m_letter m_letterAt m_told tp mat stm m_kept him ki crs m_price m_offer m_gets m_yes m_buys m_ends m_carried m_row rm m_keptRow m_likeGets m_likePrice m_ahead, cI aC m_weight 9 wf] := jn_N (wr := [cI aC m_refused 7 mr, cI aC m_kind 9 kf, cI aC m_figure 9 ff, cI aC m_setting 5 stf, cI aC m_offer 81 u_19, cI aC m_gets 90 u_20, cI aC m_yes 9 u_21, cI aC m_buys 9 u_22, cI aC m_ends 9 u_23, cI aC m_carried 9 u_24, cI aC m_price 81 u_18]) hFc hk1 hP1 hD1 hP hD [12, 11] [0, 1, 2, 3, 4, 5, 6, 7, 8, 9, 10] rfl rfl (by decide) (by decide)
                          have hP := hpd9.1
                          have hD := hpd9.2
                          clear hpd9
                          generalize H1 = H at hP hS ⊢
                          clear hPc hDc hFc hz1 hk1 hP1 hD1 ht hvm
                          have h9 : x_87 = nI (sumr W0 sn (n - sn)) := by rw [hw_87, yw_left (by omega) hn8 hwl]
                          subst h9
                          have hpd9 := pdf_N (cx := []) hP hD hS hA [] (by decide) rfl
                          have hPc := hpd9.1
                          have hDc := hpd9.2.1
                          have hFc := hpd9.2.2
                          clear hpd9
                          refine va_calli (va_runS (As := [Value.int (stf 1), Value.int (nI (W0 sn + LGW (zP (PO n K F W0 S5) sn) W0 v (lgS (zP (PO n K F W0 S5) sn) v sn (n - 1 - sn)) sn (n - 1 - sn) x.testBit)), Value.int (nI (sumr W0 sn (n - sn)))]) (rest := []) ⟨hx, hb, hml, hown, hts⟩ (c_X12_isCarried l dC dI aC H.size (stf 1) (W0 sn + LGW (zP (PO n K F W0 S5) sn) W0 v (lgS (zP (PO n K F W0 S5) sn) v sn (n - 1 - sn)) sn (n - 1 - sn) x.testBit) (sumr W0 sn (n - sn)) (by omega) (by omega)) ⟨(callB_of 3 hts (gG kw_933) rfl rfl rfl (hts _ (gw kw_13 rfl)) (hts _ (gw kw_931 rfl)) hd_X12_isCarried ⟨Nat.le_of_ble_eq_true rfl, Nat.le_of_ble_eq_true rfl⟩), (hts _ (gw kw_932 rfl))⟩ ⟨fb_std, pre_std hPc hK hDc hN⟩ rfl rfl hl.1 rfl (lv_room (Nat.le_of_ble_eq_true rfl)) dX12_league_187 ⟨Nat.le_of_ble_eq_true rfl, Nat.le_of_ble_eq_true rfl⟩) hS (fun q _ h => hFc q h) hFc (fun x_88 u9 t9 H1 locs ht hvm hw_88 hB hz1 hk1 hS => ?_)
                          obtain ⟨hP1, hK1, hD1⟩ := hB
                          rw [ht] at hP1
                          clear hK1
                          try dsimp only at hw_88
                          have hpd9 : PDx (dC, dI) classes A H1 [cI aC m_refused 7 mr, cI aC m_kind 9 kf, cI aC m_figure 9 ff, cI aC m_setting 5 stf, cI aC m_offer 81 u_19, cI aC m_gets 90 u_20, cI aC m_yes 9 u_21, cI aC m_buys 9 u_22, cI aC m_ends 9 u_23, cI aC m_carried 9 u_24, cI aC m_price 81 u_18, oX12 g0 m_refused m_kind m_figure m_weight m_got m_setting (nI n) (nI sn) dn m_tape m_letter m_letterAt m_told tp mat stm m_kept him ki crs m_price m_offer m_gets m_yes m_buys m_ends m_carried m_row rm m_keptRow m_likeGets m_likePrice m_ahead, cI aC m_weight 9 wf] := jn_N (wr := [cI aC m_refused 7 mr, cI aC m_kind 9 kf, cI aC m_figure 9 ff, cI aC m_setting 5 stf, cI aC m_offer 81 u_19, cI aC m_gets 90 u_20, cI aC m_yes 9 u_21, cI aC m_buys 9 u_22, cI aC m_ends 9 u_23, cI aC m_carried 9 u_24, cI aC m_price 81 u_18, oX12 g0 m_refused m_kind m_figure m_weight m_got m_setting (nI n) (nI sn) dn m_tape m_letter m_letterAt m_told tp mat stm m_kept him ki crs m_price m_offer m_gets m_yes m_buys m_ends m_carried m_row rm m_keptRow m_likeGets m_likePrice m_ahead, cI aC m_weight 9 wf]) hFc hk1 hP1 hD1 hP hD [] [0, 1, 2, 3, 4, 5, 6, 7, 8, 9, 10, 11, 12] rfl rfl (by decide) (by decide)
                          have hP := hpd9.1
                          have hD := hpd9.2
                          clear hpd9
                          generalize H1 = H at hP hS ⊢
                          clear hPc hDc hFc hz1 hk1 hP1 hD1 ht hvm
                          have hz_187 := hw_88
                          refine lv_if_eq (tgt := 195) hx hb dX12_league_190 (by decide) (fun c_89 => ?_) (fun c_89 => ?_)
                          · have hno2 : ∀ z, z < x + 1 → ¬ QM n W0 (stf 1) (S5 0) sn (zP (PO n K F W0 S5) sn) v z := fun z hz => by
                              by_cases e : z = x
                              · rw [e]
                                exact fun q => absurd (hz_187.symm.trans c_89) (by rw [if_pos q.2.2.2]; decide)
                              · exact hno z (by omega)
                            obtain ⟨x_90, e_90⟩ : ∃ y : Int32, y = (nI x) + 1 := ⟨_, rfl⟩
                            refine lv_iinc (v := x_90) (lv' := [(4, Value.int x_90), (5, Value.int x_77), (0, Value.ref g0), (1, Value.int v), (2, Value.int x_6), (3, Value.int x_27)]) hx hb dX12_league_195 hl (k := 5) rfl (by rw [e_90]; rfl) (by decide) rfl (fun ls hl => ?_)
                            have h9 : x_90 = nI (x + 1) := by rw [e_90, nI_1]
                            subst h9
                            refine lv_goto (tgt := 78) hx hb dX12_league_198 (by decide) ?_
                            exact ih_78 (x + 1) (by omega) (by omega) (hno2) _ _ _ (hP.sub [0, 1, 2, 12, 3, 4, 5, 6, 7, 8, 9, 11, 10] rfl) (hD.sub [0, 1, 2, 12, 3, 4, 5, 6, 7, 8, 9, 11, 10] (by decide) rfl) hS (lv_sub hl [2, 3, 4, 5, 0] rfl)
                          · have hcar : nd (stf 1) (sumr W0 sn (n - sn)) ≤ (W0 sn + LGW (zP (PO n K F W0 S5) sn) W0 v (lgS (zP (PO n K F W0 S5) sn) v sn (n - 1 - sn)) sn (n - 1 - sn) x.testBit) := by
                              by_cases q : nd (stf 1) (sumr W0 sn (n - sn)) ≤ (W0 sn + LGW (zP (PO n K F W0 S5) sn) W0 v (lgS (zP (PO n K F W0 S5) sn) v sn (n - 1 - sn)) sn (n - 1 - sn) x.testBit)
                              · exact q
                              · exact absurd (by rw [hz_187, if_neg q]) c_89
                            refine lv_iconst (v := 1) hx hb dX12_league_193 (by decide) ?_
                            have hpd9 := pd_N (cx := [oX12 g0 m_refused m_kind m_figure m_weight m_got m_setting (nI n) (nI sn) dn m_tape m_letter m_letterAt m_told tp mat stm m_kept him ki crs m_price m_offer m_gets m_yes m_buys m_ends m_carried m_row rm m_keptRow m_likeGets m_likePrice m_ahead, cI aC m_kind 9 kf, cI aC m_figure 9 ff, cI aC m_weight 9 wf, cI aC m_setting 5 stf, cI aC m_price 81 u_18, cI aC m_offer 81 u_19, cI aC m_gets 90 u_20, cI aC m_yes 9 u_21, cI aC m_buys 9 u_22, cI aC m_ends 9 u_23, cI aC m_carried 9 u_24, cI aC m_refused 7 mr]) hP hD [11, 1, 2, 12, 3, 10, 4, 5, 6, 7, 8, 9, 0] (by decide) rfl
                            have hP9 := hpd9.1
                            have hD9 := hpd9.2
                            refine W.widen (k := 0) (n := 0) (by omega) (by omega) ?_
                            exact W.iret (v := 1) hx hb hr (fun t ht hW => ⟨⟨1, (u_18, u_19, u_20, u_21, u_22, u_23, u_24, mr), rfl, LGR_1 hov hM ((LG_m hM1).mp ⟨x, hlx, by rw [← hs1]; exact ⟨hB, hd, hc9, hcar⟩⟩), by rw [ht]; exact hP9, va_K.moved hW.alike hK, hD9⟩, hS.F ht⟩) hS.2.2 dX12_league_194
                      · refine lv_iload_n hx hb dX12_league_136 rfl (lv_at hl 1 rfl) ?_
                        refine lv_goto (tgt := 141) hx hb dX12_league_137 (by decide) ?_
                        refine lv_ior hx hb dX12_league_141 ?_
                        refine lv_topi (fun x_91 e_91 => ?_)
                        refine lv_istore (lv' := [(5, Value.int x_91), (0, Value.ref g0), (1, Value.int v), (2, Value.int x_6), (3, Value.int x_27), (4, Value.int (nI x))]) hx hb dX12_league_142 hl (by decide) rfl (fun ls hl => ?_)
                        have hwx := lg_wx (x := x_91) (fr := lgS (zP (PO n K F W0 S5) sn) v sn (n - 1 - sn)) ⟨hsn, hn8⟩ hlx hfr (by rw [e_91, e_74, e_72, e_73]) (Or.inl ⟨rfl, (hif.resolve_right (fun q => c_76 q.1)).2⟩)
                        refine lv_aload_n hx hb dX12_league_144 rfl (lv_at hl 1 rfl) ?_
                        refine lv_aload_n hx hb dX12_league_145 rfl (lv_at hl 1 rfl) ?_
                        refine va_get (D := (dC, dI)) (ci := 12) (v := Value.int (nI sn)) (C := RX12) (T := TX12) (N := 33) hx hb hts inX12 hown hK hP 11 rfl rfl 7 (by decide) (hts _ (gw kw_724 rfl)) (fun _ h9 => h9) rfl dX12_league_146 ?_
                        refine lv_iload hx hb dX12_league_149 (lv_at hl 5 rfl) ?_
                        have hpd9 := pdf_N (cx := [oX12 g0 m_refused m_kind m_figure m_weight m_got m_setting (nI n) (nI sn) dn m_tape m_letter m_letterAt m_told tp mat stm m_kept him ki crs m_price m_offer m_gets m_yes m_buys m_ends m_carried m_row rm m_keptRow m_likeGets m_likePrice m_ahead, cI aC m_price 81 u_18]) hP hD hS hA [11, 12] (by decide) rfl
                        have hPc := hpd9.1
                        have hDc := hpd9.2.1
                        have hFc := hpd9.2.2
                        clear hpd9
                        refine va_calli (va_runV (As := [Value.int (nI sn), Value.int (nI x)]) (rest := []) ⟨hx, hb, hml, hown, hts⟩ (c_X12_costOf l dC dI aC H.size g0 m_refused m_kind m_figure m_weight m_got m_setting m_tape m_letter m_letterAt m_told m_kept m_price m_offer m_gets m_yes m_buys m_ends m_carried m_row m_keptRow m_likeGets m_likePrice m_ahead (nI sn) dn tp mat stm him ki crs rm n u_18 (zP (PO n K F W0 S5) sn) sn (nI x) (by omega) (fun q h1 h2 => ⟨(hm1 sn hsn).1 q h1 h2, zP_le (PO_cl hev) (HF_of hev.1) h1 h2⟩)) ⟨(callB_of 2 hts (gG kw_937) rfl rfl rfl (hts _ (gw kw_13 rfl)) (hts _ (gw kw_934 rfl)) hd_X12_costOf ⟨Nat.le_of_ble_eq_true rfl, Nat.le_of_ble_eq_true rfl⟩), (hts _ (gw kw_936 rfl)), (hts _ (gw ks_53 rfl))⟩ ⟨fb_std, va_recv (q := (RX12, TX12, 33)) hK hPc (ci := 12) (q0 := 0) rfl rfl, pre_std hPc hK hDc hN⟩ rfl rfl hl.1 rfl (lv_room (Nat.le_of_ble_eq_true rfl)) dX12_league_151 ⟨Nat.le_of_ble_eq_true rfl, Nat.le_of_ble_eq_true rfl⟩) hS (fun q _ h => hFc q h) hFc (fun x_92 u9 t9 H1 locs ht hvm hw_92 hB hz1 hk1 hS => ?_)
                        obtain ⟨hP1, hK1, hD1⟩ := hB
                        rw [ht] at hP1
                        clear hK1
                        try dsimp only at hw_92
                        have hpd9 : PDx (dC, dI) classes A H1 [cI aC m_refused 7 mr, cI aC m_kind 9 kf, cI aC m_figure 9 ff, cI aC m_weight 9 wf, cI aC m_setting 5 stf, cI aC m_offer 81 u_19, cI aC m_gets 90 u_20, cI aC m_yes 9 u_21, cI aC m_buys 9 u_22, cI aC m_ends 9 u_23, cI aC m_carried 9 u_24, oX12 g0 m_refused m_kind m_figure m_weight m_got m_setting (nI n) (nI sn) dn m_tape m_letter m_letterAt m_told tp mat stm m_kept him ki crs m_price m_offer m_gets m_yes m_buys m_ends m_carried m_row rm m_keptRow m_likeGets m_likePrice m_ahead, cI aC m_price 81 u_18] := jn_N (wr := [cI aC m_refused 7 mr, cI aC m_kind 9 kf, cI aC m_figure 9 ff, cI aC m_weight 9 wf, cI aC m_setting 5 stf, cI aC m_offer 81 u_19, cI aC m_gets 90 u_20, cI aC m_yes 9 u_21, cI aC m_buys 9 u_22, cI aC m_ends 9 u_23, cI aC m_carried 9 u_24]) hFc hk1 hP1 hD1 hP hD [11, 12] [0, 1, 2, 3, 4, 5, 6, 7, 8, 9, 10] rfl rfl (by decide) (by decide)
                        have hP := hpd9.1
                        have hD := hpd9.2
                        clear hpd9
                        generalize H1 = H at hP hS ⊢
                        clear hPc hDc hFc hz1 hk1 hP1 hD1 ht hvm
                        have hcl := cstm_le (Pq := (zP (PO n K F W0 S5) sn)) (n := n) (i := sn) (s := x) hn8 (fun q h1 h2 => zP_le (PO_cl hev) (HF_of hev.1) h1 h2)
                        have h9 : x_92 = nI (cstm (zP (PO n K F W0 S5) sn) n sn x) := by rw [hw_92, yw_cstm hn8 hsn hlx]
                        subst h9
                        refine lv_aload_n hx hb dX12_league_154 rfl (lv_at hl 1 rfl) ?_
                        refine va_get (D := (dC, dI)) (ci := 12) (v := Value.ref m_setting) (C := RX12) (T := TX12) (N := 33) hx hb hts inX12 hown hK hP 11 rfl rfl 5 (by decide) (hts _ (gw kw_722 rfl)) (fun _ h9 => h9) rfl dX12_league_155 ?_
                        refine lv_iconst (v := 0) hx hb dX12_league_158 (by decide) ?_
                        have h_93 : vp_in 0 5 := by unfold vp_in; decide
                        refine va_iald hx hb hK hP 4 0 rfl rfl h_93 dX12_league_159 ?_
                        refine lv_topi (fun x_94 e_94 => ?_)
                        have h9 : x_94 = nI (S5 0) := by rw [e_94]; exact hev.2.1 0 (by omega)
                        subst h9
                        refine lv_icmp_gt (tgt := 195) hx hb dX12_league_160 (by decide) (fun c_95 => ?_) (fun c_95 => ?_)
                        · have hno2 : ∀ z, z < x + 1 → ¬ QM n W0 (stf 1) (S5 0) sn (zP (PO n K F W0 S5) sn) v z := fun z hz => by
                            by_cases e : z = x
                            · rw [e]
                              exact fun q => by have h7 := (nI_ltI (by omega) (by omega)).mp c_95; have h8 := q.2.2.1; omega
                            · exact hno z (by omega)
                          obtain ⟨x_96, e_96⟩ : ∃ y : Int32, y = (nI x) + 1 := ⟨_, rfl⟩
                          refine lv_iinc (v := x_96) (lv' := [(4, Value.int x_96), (5, Value.int x_91), (0, Value.ref g0), (1, Value.int v), (2, Value.int x_6), (3, Value.int x_27)]) hx hb dX12_league_195 hl (k := 5) rfl (by rw [e_96]; rfl) (by decide) rfl (fun ls hl => ?_)
                          have h9 : x_96 = nI (x + 1) := by rw [e_96, nI_1]
                          subst h9
                          refine lv_goto (tgt := 78) hx hb dX12_league_198 (by decide) ?_
                          exact ih_78 (x + 1) (by omega) (by omega) (hno2) _ _ _ (hP.sub [0, 1, 2, 3, 4, 5, 6, 7, 8, 9, 10, 11, 12] rfl) (hD.sub [0, 1, 2, 3, 4, 5, 6, 7, 8, 9, 10, 11, 12] (by decide) rfl) hS (lv_sub hl [2, 3, 4, 5, 0] rfl)
                        · have hc9 : cstm (zP (PO n K F W0 S5) sn) n sn x ≤ S5 0 := Nat.le_of_not_lt fun q => c_95 (nI_lt q (by omega))
                          refine lv_aload_n hx hb dX12_league_163 rfl (lv_at hl 1 rfl) ?_
                          refine va_get (D := (dC, dI)) (ci := 12) (v := Value.ref m_setting) (C := RX12) (T := TX12) (N := 33) hx hb hts inX12 hown hK hP 11 rfl rfl 5 (by decide) (hts _ (gw kw_722 rfl)) (fun _ h9 => h9) rfl dX12_league_164 ?_
                          refine lv_iconst (v := 1) hx hb dX12_league_167 (by decide) ?_
                          have h_97 : vp_in 1 5 := by unfold vp_in; decide
                          refine va_iald hx hb hK hP 4 0 rfl rfl h_97 dX12_league_168 ?_
                          refine lv_topi (fun x_98 e_98 => ?_)
                          have h9 : x_98 = (stf 1) := by rw [e_98]; rfl
                          subst h9
                          refine lv_aload_n hx hb dX12_league_169 rfl (lv_at hl 1 rfl) ?_
                          refine lv_iload hx hb dX12_league_170 (lv_at hl 0 rfl) ?_
                          have hpd9 := pdf_N (cx := [oX12 g0 m_refused m_kind m_figure m_weight m_got m_setting (nI n) (nI sn) dn m_tape m_letter m_letterAt m_told tp mat stm m_kept him ki crs m_price m_offer m_gets m_yes m_buys m_ends m_carried m_row rm m_keptRow m_likeGets m_likePrice m_ahead, cI aC m_weight 9 wf]) hP hD hS hA [11, 3] (by decide) rfl
                          have hPc := hpd9.1
                          have hDc := hpd9.2.1
                          have hFc := hpd9.2.2
                          clear hpd9
                          refine va_calli (va_runV (As := [Value.int x_91]) (rest := [Value.int (stf 1)]) ⟨hx, hb, hml, hown, hts⟩ (c_X12_weightOf l dC dI aC H.size g0 m_refused m_kind m_figure m_weight m_got m_setting m_tape m_letter m_letterAt m_told m_kept m_price m_offer m_gets m_yes m_buys m_ends m_carried m_row m_keptRow m_likeGets m_likePrice m_ahead (nI sn) dn tp mat stm him ki crs rm n wf W0 x_91 (HW_of hev.1)) ⟨(callB_of 1 hts (gG kw_930) rfl rfl rfl (hts _ (gw kw_13 rfl)) (hts _ (gw kw_927 rfl)) hd_X12_weightOf ⟨Nat.le_of_ble_eq_true rfl, Nat.le_of_ble_eq_true rfl⟩), (hts _ (gw kw_929 rfl)), (hts _ (gw ks_52 rfl))⟩ ⟨fb_std, va_recv (q := (RX12, TX12, 33)) hK hPc (ci := 12) (q0 := 0) rfl rfl, pre_std hPc hK hDc hN⟩ rfl rfl hl.1 rfl (lv_room (Nat.le_of_ble_eq_true rfl)) dX12_league_172 ⟨Nat.le_of_ble_eq_true rfl, Nat.le_of_ble_eq_true rfl⟩) hS (fun q _ h => hFc q h) hFc (fun x_99 u9 t9 H1 locs ht hvm hw_99 hB hz1 hk1 hS => ?_)
                          obtain ⟨hP1, hK1, hD1⟩ := hB
                          rw [ht] at hP1
                          clear hK1
                          try dsimp only at hw_99
                          have hpd9 : PDx (dC, dI) classes A H1 [cI aC m_refused 7 mr, cI aC m_kind 9 kf, cI aC m_figure 9 ff, cI aC m_setting 5 stf, cI aC m_offer 81 u_19, cI aC m_gets 90 u_20, cI aC m_yes 9 u_21, cI aC m_buys 9 u_22, cI aC m_ends 9 u_23, cI aC m_carried 9 u_24, cI aC m_price 81 u_18, oX12 g0 m_refused m_kind m_figure m_weight m_got m_setting (nI n) (nI sn) dn m_tape m_letter m_letterAt m_told tp mat stm m_kept him ki crs m_price m_offer m_gets m_yes m_buys m_ends m_carried m_row rm m_keptRow m_likeGets m_likePrice m_ahead, cI aC m_weight 9 wf] := jn_N (wr := [cI aC m_refused 7 mr, cI aC m_kind 9 kf, cI aC m_figure 9 ff, cI aC m_setting 5 stf, cI aC m_offer 81 u_19, cI aC m_gets 90 u_20, cI aC m_yes 9 u_21, cI aC m_buys 9 u_22, cI aC m_ends 9 u_23, cI aC m_carried 9 u_24, cI aC m_price 81 u_18]) hFc hk1 hP1 hD1 hP hD [11, 3] [0, 1, 2, 4, 5, 6, 7, 8, 9, 10, 12] rfl rfl (by decide) (by decide)
                          have hP := hpd9.1
                          have hD := hpd9.2
                          clear hpd9
                          generalize H1 = H at hP hS ⊢
                          clear hPc hDc hFc hz1 hk1 hP1 hD1 ht hvm
                          have hWT := lg_yw (W := W0) (P := (zP (PO n K F W0 S5) sn)) (x := x_91) hsn hB hM1 hwx
                          have hy9 := yw_le (W := W0) (y := x_91) (a := 0) (k := n) (fun j q => ((HW_of hev.1).2 j q).2) (by omega) hn8
                          rw [hWT] at hy9
                          have h9 : x_99 = nI (W0 sn + LGW (zP (PO n K F W0 S5) sn) W0 v (lgS (zP (PO n K F W0 S5) sn) v sn (n - 1 - sn)) sn (n - 1 - sn) x.testBit) := by rw [hw_99, hWT]
                          subst h9
                          refine lv_aload_n hx hb dX12_league_175 rfl (lv_at hl 1 rfl) ?_
                          refine lv_aload_n hx hb dX12_league_176 rfl (lv_at hl 1 rfl) ?_
                          refine lv_aload_n hx hb dX12_league_177 rfl (lv_at hl 1 rfl) ?_
                          refine va_get (D := (dC, dI)) (ci := 12) (v := Value.int (nI sn)) (C := RX12) (T := TX12) (N := 33) hx hb hts inX12 hown hK hP 11 rfl rfl 7 (by decide) (hts _ (gw kw_724 rfl)) (fun _ h9 => h9) rfl dX12_league_178 ?_
                          have hpd9 := pdf_N (cx := [oX12 g0 m_refused m_kind m_figure m_weight m_got m_setting (nI n) (nI sn) dn m_tape m_letter m_letterAt m_told tp mat stm m_kept him ki crs m_price m_offer m_gets m_yes m_buys m_ends m_carried m_row rm m_keptRow m_likeGets m_likePrice m_ahead]) hP hD hS hA [11] (by decide) rfl
                          have hPc := hpd9.1
                          have hDc := hpd9.2.1
                          have hFc := hpd9.2.2
                          clear hpd9
                          refine va_calli (va_runV (As := [Value.int (nI sn)]) (rest := [Value.ref g0, Value.int (nI (W0 sn + LGW (zP (PO n K F W0 S5) sn) W0 v (lgS (zP (PO n K F W0 S5) sn) v sn (n - 1 - sn)) sn (n - 1 - sn) x.testBit)), Value.int (stf 1)]) ⟨hx, hb, hml, hown, hts⟩ (c_X12_leftFrom l dC dI aC H.size g0 m_refused m_kind m_figure m_weight m_got m_setting m_tape m_letter m_letterAt m_told m_kept m_price m_offer m_gets m_yes m_buys m_ends m_carried m_row m_keptRow m_likeGets m_likePrice m_ahead (nI sn) dn tp mat stm him ki crs rm n sn (by omega)) ⟨(callB_of 1 hts (gG kw_922) rfl rfl rfl (hts _ (gw kw_13 rfl)) (hts _ (gw kw_919 rfl)) hd_X12_leftFrom ⟨Nat.le_of_ble_eq_true rfl, Nat.le_of_ble_eq_true rfl⟩), (hts _ (gw kw_921 rfl)), (hts _ (gw ks_50 rfl))⟩ ⟨fb_std, va_recv (q := (RX12, TX12, 33)) hK hPc (ci := 12) (q0 := 0) rfl rfl, pre_std hPc hK hDc hN⟩ rfl rfl hl.1 rfl (lv_room (Nat.le_of_ble_eq_true rfl)) dX12_league_181 ⟨Nat.le_of_ble_eq_true rfl, Nat.le_of_ble_eq_true rfl⟩) hS (fun q _ h => hFc q h) hFc (fun x_100 u9 t9 H1 locs ht hvm hw_100 hB hz1 hk1 hS => ?_)
                          obtain ⟨hP1, hK1, hD1⟩ := hB
                          rw [ht] at hP1
                          clear hK1
                          try dsimp only at hw_100
                          have hpd9 : PDx (dC, dI) classes A H1 [cI aC m_refused 7 mr, cI aC m_kind 9 kf, cI aC m_figure 9 ff, cI aC m_setting 5 stf, cI aC m_offer 81 u_19, cI aC m_gets 90 u_20, cI aC m_yes 9 u_21, cI aC m_buys 9 u_22, cI aC m_ends 9 u_23, cI aC m_carried 9 u_24, cI aC m_price 81 u_18, cI aC m_weight 9 wf, oX12 g0 m_refused m_kind m_figure m_weight m_got m_setting (nI n) (nI sn) dn m_tape m_letter m_letterAt m_told tp mat stm m_kept him ki crs m_price m_offer m_gets m_yes m_buys m_ends m_carried m_row rm m_keptRow m_likeGets m_likePrice m_ahead] := jn_N (wr := [cI aC m_refused 7 mr, cI aC m_kind 9 kf, cI aC m_figure 9 ff, cI aC m_setting 5 stf, cI aC m_offer 81 u_19, cI aC m_gets 90 u_20, cI aC m_yes 9 u_21, cI aC m_buys 9 u_22, cI aC m_ends 9 u_23, cI aC m_carried 9 u_24, cI aC m_price 81 u_18, cI aC m_weight 9 wf]) hFc hk1 hP1 hD1 hP hD [11] [0, 1, 2, 3, 4, 5, 6, 7, 8, 9, 10, 12] rfl rfl (by decide) (by decide)
                          have hP := hpd9.1
                          have hD := hpd9.2
                          clear hpd9
                          generalize H1 = H at hP hS ⊢
                          clear hPc hDc hFc hz1 hk1 hP1 hD1 ht hvm
                          have hwl := hw_100
                          have hpd9 := pdf_N (cx := [oX12 g0 m_refused m_kind m_figure m_weight m_got m_setting (nI n) (nI sn) dn m_tape m_letter m_letterAt m_told tp mat stm m_kept him ki crs m_price m_offer m_gets m_yes m_buys m_ends m_carried m_row rm m_keptRow m_likeGets m_likePrice m_ahead, cI aC m_weight 9 wf]) hP hD hS hA [12, 11] (by decide) rfl
                          have hPc := hpd9.1
                          have hDc := hpd9.2.1
                          have hFc := hpd9.2.2
                          clear hpd9
                          refine va_calli (va_runV (As := [Value.int x_100]) (rest := [Value.int (nI (W0 sn + LGW (zP (PO n K F W0 S5) sn) W0 v (lgS (zP (PO n K F W0 S5) sn) v sn (n - 1 - sn)) sn (n - 1 - sn) x.testBit)), Value.int (stf 1)]) ⟨hx, hb, hml, hown, hts⟩ (c_X12_weightOf l dC dI aC H.size g0 m_refused m_kind m_figure m_weight m_got m_setting m_tape m_letter m_letterAt m_told m_kept m_price m_offer m_gets m_yes m_buys m_ends m_carried m_row m_keptRow m_likeGets m_likePrice m_ahead (nI sn) dn tp mat stm him ki crs rm n wf W0 x_100 (HW_of hev.1)) ⟨(callB_of 1 hts (gG kw_930) rfl rfl rfl (hts _ (gw kw_13 rfl)) (hts _ (gw kw_927 rfl)) hd_X12_weightOf ⟨Nat.le_of_ble_eq_true rfl, Nat.le_of_ble_eq_true rfl⟩), (hts _ (gw kw_929 rfl)), (hts _ (gw ks_52 rfl))⟩ ⟨fb_std, va_recv (q := (RX12, TX12, 33)) hK hPc (ci := 12) (q0 := 0) rfl rfl, pre_std hPc hK hDc hN⟩ rfl rfl hl.1 rfl (lv_room (Nat.le_of_ble_eq_true rfl)) dX12_league_184 ⟨Nat.le_of_ble_eq_true rfl, Nat.le_of_ble_eq_true rfl⟩) hS (fun q _ h => hFc q h) hFc (fun x_101 u9 t9 H1 locs ht hvm hw_101 hB hz1 hk1 hS => ?_)
                          obtain ⟨hP1, hK1, hD1⟩ := hB
                          rw [ht] at hP1
                          clear hK1
                          try dsimp only at hw_101
                          have hpd9 : PDx (dC, dI) classes A H1 [cI aC m_refused 7 mr, cI aC m_kind 9 kf, cI aC m_figure 9 ff, cI aC m_setting 5 stf, cI aC m_offer 81 u_19, cI aC m_gets 90 u_20, cI aC m_yes 9 u_21, cI aC m_buys 9 u_22, cI aC m_ends 9 u_23, cI aC m_carried 9 u_24, cI aC m_price 81 u_18, oX12 g0 m_refused m_kind m_figure m_weight m_got m_setting (nI n) (nI sn) dn m_tape m_letter m_letterAt m_told tp mat stm m_kept him ki crs m_price m_offer m_gets m_yes m_buys m_ends m_carried m_row rm m_keptRow m_likeGets m_likePrice m_ahead, cI aC m_weight 9 wf] := jn_N (wr := [cI aC m_refused 7 mr, cI aC m_kind 9 kf, cI aC m_figure 9 ff, cI aC m_setting 5 stf, cI aC m_offer 81 u_19, cI aC m_gets 90 u_20, cI aC m_yes 9 u_21, cI aC m_buys 9 u_22, cI aC m_ends 9 u_23, cI aC m_carried 9 u_24, cI aC m_price 81 u_18]) hFc hk1 hP1 hD1 hP hD [12, 11] [0, 1, 2, 3, 4, 5, 6, 7, 8, 9, 10] rfl rfl (by decide) (by decide)
                          have hP := hpd9.1
                          have hD := hpd9.2
                          clear hpd9
                          generalize H1 = H at hP hS ⊢
                          clear hPc hDc hFc hz1 hk1 hP1 hD1 ht hvm
                          have h9 : x_101 = nI (sumr W0 sn (n - sn)) := by rw [hw_101, yw_left (by omega) hn8 hwl]
                          subst h9
                          have hpd9 := pdf_N (cx := []) hP hD hS hA [] (by decide) rfl
                          have hPc := hpd9.1
                          have hDc := hpd9.2.1
                          have hFc := hpd9.2.2
                          clear hpd9
                          refine va_calli (va_runS (As := [Value.int (stf 1), Value.int (nI (W0 sn + LGW (zP (PO n K F W0 S5) sn) W0 v (lgS (zP (PO n K F W0 S5) sn) v sn (n - 1 - sn)) sn (n - 1 - sn) x.testBit)), Value.int (nI (sumr W0 sn (n - sn)))]) (rest := []) ⟨hx, hb, hml, hown, hts⟩ (c_X12_isCarried l dC dI aC H.size (stf 1) (W0 sn + LGW (zP (PO n K F W0 S5) sn) W0 v (lgS (zP (PO n K F W0 S5) sn) v sn (n - 1 - sn)) sn (n - 1 - sn) x.testBit) (sumr W0 sn (n - sn)) (by omega) (by omega)) ⟨(callB_of 3 hts (gG kw_933) rfl rfl rfl (hts _ (gw kw_13 rfl)) (hts _ (gw kw_931 rfl)) hd_X12_isCarried ⟨Nat.le_of_ble_eq_true rfl, Nat.le_of_ble_eq_true rfl⟩), (hts _ (gw kw_932 rfl))⟩ ⟨fb_std, pre_std hPc hK hDc hN⟩ rfl rfl hl.1 rfl (lv_room (Nat.le_of_ble_eq_true rfl)) dX12_league_187 ⟨Nat.le_of_ble_eq_true rfl, Nat.le_of_ble_eq_true rfl⟩) hS (fun q _ h => hFc q h) hFc (fun x_102 u9 t9 H1 locs ht hvm hw_102 hB hz1 hk1 hS => ?_)
                          obtain ⟨hP1, hK1, hD1⟩ := hB
                          rw [ht] at hP1
                          clear hK1
                          try dsimp only at hw_102
                          have hpd9 : PDx (dC, dI) classes A H1 [cI aC m_refused 7 mr, cI aC m_kind 9 kf, cI aC m_figure 9 ff, cI aC m_setting 5 stf, cI aC m_offer 81 u_19, cI aC m_gets 90 u_20, cI aC m_yes 9 u_21, cI aC m_buys 9 u_22, cI aC m_ends 9 u_23, cI aC m_carried 9 u_24, cI aC m_price 81 u_18, oX12 g0 m_refused m_kind m_figure m_weight m_got m_setting (nI n) (nI sn) dn m_tape m_letter m_letterAt m_told tp mat stm m_kept him ki crs m_price m_offer m_gets m_yes m_buys m_ends m_carried m_row rm m_keptRow m_likeGets m_likePrice m_ahead, cI aC m_weight 9 wf] := jn_N (wr := [cI aC m_refused 7 mr, cI aC m_kind 9 kf, cI aC m_figure 9 ff, cI aC m_setting 5 stf, cI aC m_offer 81 u_19, cI aC m_gets 90 u_20, cI aC m_yes 9 u_21, cI aC m_buys 9 u_22, cI aC m_ends 9 u_23, cI aC m_carried 9 u_24, cI aC m_price 81 u_18, oX12 g0 m_refused m_kind m_figure m_weight m_got m_setting (nI n) (nI sn) dn m_tape m_letter m_letterAt m_told tp mat stm m_kept him ki crs m_price m_offer m_gets m_yes m_buys m_ends m_carried m_row rm m_keptRow m_likeGets m_likePrice m_ahead, cI aC m_weight 9 wf]) hFc hk1 hP1 hD1 hP hD [] [0, 1, 2, 3, 4, 5, 6, 7, 8, 9, 10, 11, 12] rfl rfl (by decide) (by decide)
                          have hP := hpd9.1
                          have hD := hpd9.2
                          clear hpd9
                          generalize H1 = H at hP hS ⊢
                          clear hPc hDc hFc hz1 hk1 hP1 hD1 ht hvm
                          have hz_187 := hw_102
                          refine lv_if_eq (tgt := 195) hx hb dX12_league_190 (by decide) (fun c_103 => ?_) (fun c_103 => ?_)
                          · have hno2 : ∀ z, z < x + 1 → ¬ QM n W0 (stf 1) (S5 0) sn (zP (PO n K F W0 S5) sn) v z := fun z hz => by
                              by_cases e : z = x
                              · rw [e]
                                exact fun q => absurd (hz_187.symm.trans c_103) (by rw [if_pos q.2.2.2]; decide)
                              · exact hno z (by omega)
                            obtain ⟨x_104, e_104⟩ : ∃ y : Int32, y = (nI x) + 1 := ⟨_, rfl⟩
                            refine lv_iinc (v := x_104) (lv' := [(4, Value.int x_104), (5, Value.int x_91), (0, Value.ref g0), (1, Value.int v), (2, Value.int x_6), (3, Value.int x_27)]) hx hb dX12_league_195 hl (k := 5) rfl (by rw [e_104]; rfl) (by decide) rfl (fun ls hl => ?_)
                            have h9 : x_104 = nI (x + 1) := by rw [e_104, nI_1]
                            subst h9
                            refine lv_goto (tgt := 78) hx hb dX12_league_198 (by decide) ?_
                            exact ih_78 (x + 1) (by omega) (by omega) (hno2) _ _ _ (hP.sub [0, 1, 2, 12, 3, 4, 5, 6, 7, 8, 9, 11, 10] rfl) (hD.sub [0, 1, 2, 12, 3, 4, 5, 6, 7, 8, 9, 11, 10] (by decide) rfl) hS (lv_sub hl [2, 3, 4, 5, 0] rfl)
                          · have hcar : nd (stf 1) (sumr W0 sn (n - sn)) ≤ (W0 sn + LGW (zP (PO n K F W0 S5) sn) W0 v (lgS (zP (PO n K F W0 S5) sn) v sn (n - 1 - sn)) sn (n - 1 - sn) x.testBit) := by
                              by_cases q : nd (stf 1) (sumr W0 sn (n - sn)) ≤ (W0 sn + LGW (zP (PO n K F W0 S5) sn) W0 v (lgS (zP (PO n K F W0 S5) sn) v sn (n - 1 - sn)) sn (n - 1 - sn) x.testBit)
                              · exact q
                              · exact absurd (by rw [hz_187, if_neg q]) c_103
                            refine lv_iconst (v := 1) hx hb dX12_league_193 (by decide) ?_
                            have hpd9 := pd_N (cx := [oX12 g0 m_refused m_kind m_figure m_weight m_got m_setting (nI n) (nI sn) dn m_tape m_letter m_letterAt m_told tp mat stm m_kept him ki crs m_price m_offer m_gets m_yes m_buys m_ends m_carried m_row rm m_keptRow m_likeGets m_likePrice m_ahead, cI aC m_kind 9 kf, cI aC m_figure 9 ff, cI aC m_weight 9 wf, cI aC m_setting 5 stf, cI aC m_price 81 u_18, cI aC m_offer 81 u_19, cI aC m_gets 90 u_20, cI aC m_yes 9 u_21, cI aC m_buys 9 u_22, cI aC m_ends 9 u_23, cI aC m_carried 9 u_24, cI aC m_refused 7 mr]) hP hD [11, 1, 2, 12, 3, 10, 4, 5, 6, 7, 8, 9, 0] (by decide) rfl
                            have hP9 := hpd9.1
                            have hD9 := hpd9.2
                            refine W.widen (k := 0) (n := 0) (by omega) (by omega) ?_
                            exact W.iret (v := 1) hx hb hr (fun t ht hW => ⟨⟨1, (u_18, u_19, u_20, u_21, u_22, u_23, u_24, mr), rfl, LGR_1 hov hM ((LG_m hM1).mp ⟨x, hlx, by rw [← hs1]; exact ⟨hB, hd, hc9, hcar⟩⟩), by rw [ht]; exact hP9, va_K.moved hW.alike hK, hD9⟩, hS.F ht⟩) hS.2.2 dX12_league_194
                    · refine lv_goto (tgt := 195) hx hb dX12_league_114 (by decide) ?_
                      have hno2 : ∀ z, z < x + 1 → ¬ QM n W0 (stf 1) (S5 0) sn (zP (PO n K F W0 S5) sn) v z := fun z hz => by
                        by_cases e : z = x
                        · rw [e]
                          exact fun q => q.2.1.elim (fun z => c_35 (by rw [e_34]; exact (lg_and0 hn8 hlx hM1).mpr z)) (fun z => c_71 (by rw [e_70, e_69]; exact (lg_sub0 hn8 hlx hM1).mpr z))
                        · exact hno z (by omega)
                      obtain ⟨x_105, e_105⟩ : ∃ y : Int32, y = (nI x) + 1 := ⟨_, rfl⟩
                      refine lv_iinc (v := x_105) (lv' := [(4, Value.int x_105), (0, Value.ref g0), (1, Value.int v), (2, Value.int x_6), (3, Value.int x_27)]) hx hb dX12_league_195 hl (k := 4) rfl (by rw [e_105]; rfl) (by decide) rfl (fun ls hl => ?_)
                      have h9 : x_105 = nI (x + 1) := by rw [e_105, nI_1]
                      subst h9
                      refine lv_goto (tgt := 78) hx hb dX12_league_198 (by decide) ?_
                      exact ih_78 (x + 1) (by omega) (by omega) (hno2) _ _ _ (hP.sub [0, 1, 2, 3, 4, 5, 6, 7, 8, 9, 10, 11, 12] rfl) (hD.sub [0, 1, 2, 3, 4, 5, 6, 7, 8, 9, 10, 11, 12] (by decide) rfl) hS (lv_sub hl [1, 2, 3, 4, 0] rfl)
          exact lp_78 ((2 ^ n - 0) + 1) 0 (Nat.lt_succ_self _) (Nat.zero_le _) (fun z hz => absurd hz (Nat.not_lt_zero z)) _ _ _ (hP.sub [0, 1, 2, 3, 4, 5, 6, 7, 8, 9, 10, 11, 12] rfl) (hD.sub [0, 1, 2, 3, 4, 5, 6, 7, 8, 9, 10, 11, 12] (by decide) rfl) hS (lv_sub hl [3, 4, 2, 1, 0] rfl)
        · refine lv_aload_n hx hb dX12_league_52 rfl (lv_at hl 1 rfl) ?_
          refine lv_iconst (v := -1) hx hb dX12_league_53 (by decide) ?_
          have hpd9 := pdf_N (cx := [oX12 g0 m_refused m_kind m_figure m_weight m_got m_setting (nI n) (nI sn) dn m_tape m_letter m_letterAt m_told tp mat stm m_kept him ki crs m_price m_offer m_gets m_yes m_buys m_ends m_carried m_row rm m_keptRow m_likeGets m_likePrice m_ahead, cI aC m_refused 7 mr]) hP hD hS hA [12, 11] (by decide) rfl
          have hPc := hpd9.1
          have hDc := hpd9.2.1
          have hFc := hpd9.2.2
          clear hpd9
          refine va_calli (va_runV (As := [Value.int (-1)]) (rest := []) ⟨hx, hb, hml, hown, hts⟩ (c_X12_no l dC dI aC H.size g0 m_refused m_kind m_figure m_weight m_got m_setting m_tape m_letter m_letterAt m_told m_kept m_price m_offer m_gets m_yes m_buys m_ends m_carried m_row m_keptRow m_likeGets m_likePrice m_ahead (nI n) (nI sn) dn tp mat stm him ki crs rm (-1) 1 mr (by decide) (by unfold vp_in; decide)) ⟨(callB_of 1 hts (gG kw_827) rfl rfl rfl (hts _ (gw kw_13 rfl)) (hts _ (gw kw_824 rfl)) hd_X12_no ⟨Nat.le_of_ble_eq_true rfl, Nat.le_of_ble_eq_true rfl⟩), (hts _ (gw kw_826 rfl)), (hts _ (gw ks_35 rfl))⟩ ⟨fb_std, va_recv (q := (RX12, TX12, 33)) hK hPc (ci := 12) (q0 := 0) rfl rfl, pre_std hPc hK hDc hN⟩ rfl rfl hl.1 rfl (lv_room (Nat.le_of_ble_eq_true rfl)) dX12_league_54 ⟨Nat.le_of_ble_eq_true rfl, Nat.le_of_ble_eq_true rfl⟩) hS (fun q _ h => hFc q h) hFc (fun x_106 u9 t9 H1 locs ht hvm hw_106 hB hz1 hk1 hS => ?_)
          obtain ⟨u_107, rfl⟩ : ∃ z, z = u9 := ⟨_, rfl⟩
          obtain ⟨hP1, hK1, hD1⟩ := hB
          rw [ht] at hP1
          clear hK1
          try dsimp only at hw_106
          have hpd9 : PDx (dC, dI) classes A H1 [cI aC m_kind 9 kf, cI aC m_figure 9 ff, cI aC m_weight 9 wf, cI aC m_setting 5 stf, cI aC m_price 81 pf, cI aC m_offer 81 of, cI aC m_gets 90 gf, cI aC m_yes 9 yf, cI aC m_buys 9 bf, cI aC m_ends 9 ef, cI aC m_carried 9 cf, oX12 g0 m_refused m_kind m_figure m_weight m_got m_setting (nI n) (nI sn) dn m_tape m_letter m_letterAt m_told tp mat stm m_kept him ki crs m_price m_offer m_gets m_yes m_buys m_ends m_carried m_row rm m_keptRow m_likeGets m_likePrice m_ahead, cI aC m_refused 7 u_107] := jn_N (wr := [cI aC m_kind 9 kf, cI aC m_figure 9 ff, cI aC m_weight 9 wf, cI aC m_setting 5 stf, cI aC m_price 81 pf, cI aC m_offer 81 of, cI aC m_gets 90 gf, cI aC m_yes 9 yf, cI aC m_buys 9 bf, cI aC m_ends 9 ef, cI aC m_carried 9 cf]) hFc hk1 hP1 hD1 hP hD [12, 11] [0, 1, 2, 3, 4, 5, 6, 7, 8, 9, 10] rfl rfl (by decide) (by decide)
          have hP := hpd9.1
          have hD := hpd9.2
          clear hpd9
          generalize H1 = H at hP hS ⊢
          clear hPc hDc hFc hz1 hk1 hP1 hD1 ht hvm
          obtain ⟨hv9, -⟩ := hw_106
          have hpd9 := pd_N (cx := [oX12 g0 m_refused m_kind m_figure m_weight m_got m_setting (nI n) (nI sn) dn m_tape m_letter m_letterAt m_told tp mat stm m_kept him ki crs m_price m_offer m_gets m_yes m_buys m_ends m_carried m_row rm m_keptRow m_likeGets m_likePrice m_ahead, cI aC m_kind 9 kf, cI aC m_figure 9 ff, cI aC m_weight 9 wf, cI aC m_setting 5 stf, cI aC m_price 81 pf, cI aC m_offer 81 of, cI aC m_gets 90 gf, cI aC m_yes 9 yf, cI aC m_buys 9 bf, cI aC m_ends 9 ef, cI aC m_carried 9 cf, cI aC m_refused 7 u_107]) hP hD [11, 0, 1, 2, 3, 4, 5, 6, 7, 8, 9, 10, 12] (by decide) rfl
          have hP9 := hpd9.1
          have hD9 := hpd9.2
          refine W.widen (k := 0) (n := 0) (by omega) (by omega) ?_
          exact W.iret (v := x_106) hx hb hr (fun t ht hW => ⟨⟨x_106, (pf, of, gf, yf, bf, ef, cf, u_107), rfl, by rw [hv9]; exact LGR_m hov (fun q => c_16 (by rw [hbi, h31]; exact nI_le (a := 2) q.2 (by omega))), by rw [ht]; exact hP9, va_K.moved hW.alike hK, hD9⟩, hS.F ht⟩) hS.2.2 dX12_league_57
  · refine lv_aload_n hx hb dX12_league_7 rfl (lv_at hl 0 rfl) ?_
    refine lv_bipush (v := -3) hx hb dX12_league_8 (by decide) ?_
    have hpd9 := pdf_N (cx := [oX12 g0 m_refused m_kind m_figure m_weight m_got m_setting (nI n) (nI sn) dn m_tape m_letter m_letterAt m_told tp mat stm m_kept him ki crs m_price m_offer m_gets m_yes m_buys m_ends m_carried m_row rm m_keptRow m_likeGets m_likePrice m_ahead, cI aC m_refused 7 mr]) hP hD hS hA [12, 11] (by decide) rfl
    have hPc := hpd9.1
    have hDc := hpd9.2.1
    have hFc := hpd9.2.2
    clear hpd9
    refine va_calli (va_runV (As := [Value.int (-3)]) (rest := []) ⟨hx, hb, hml, hown, hts⟩ (c_X12_no l dC dI aC H.size g0 m_refused m_kind m_figure m_weight m_got m_setting m_tape m_letter m_letterAt m_told m_kept m_price m_offer m_gets m_yes m_buys m_ends m_carried m_row m_keptRow m_likeGets m_likePrice m_ahead (nI n) (nI sn) dn tp mat stm him ki crs rm (-3) 3 mr (by decide) (by unfold vp_in; decide)) ⟨(callB_of 1 hts (gG kw_827) rfl rfl rfl (hts _ (gw kw_13 rfl)) (hts _ (gw kw_824 rfl)) hd_X12_no ⟨Nat.le_of_ble_eq_true rfl, Nat.le_of_ble_eq_true rfl⟩), (hts _ (gw kw_826 rfl)), (hts _ (gw ks_35 rfl))⟩ ⟨fb_std, va_recv (q := (RX12, TX12, 33)) hK hPc (ci := 12) (q0 := 0) rfl rfl, pre_std hPc hK hDc hN⟩ rfl rfl hl.1 rfl (lv_room (Nat.le_of_ble_eq_true rfl)) dX12_league_10 ⟨Nat.le_of_ble_eq_true rfl, Nat.le_of_ble_eq_true rfl⟩) hS (fun q _ h => hFc q h) hFc (fun x_108 u9 t9 H1 locs ht hvm hw_108 hB hz1 hk1 hS => ?_)
    obtain ⟨u_109, rfl⟩ : ∃ z, z = u9 := ⟨_, rfl⟩
    obtain ⟨hP1, hK1, hD1⟩ := hB
    rw [ht] at hP1
    clear hK1
    try dsimp only at hw_108
    have hpd9 : PDx (dC, dI) classes A H1 [cI aC m_kind 9 kf, cI aC m_figure 9 ff, cI aC m_weight 9 wf, cI aC m_setting 5 stf, cI aC m_price 81 pf, cI aC m_offer 81 of, cI aC m_gets 90 gf, cI aC m_yes 9 yf, cI aC m_buys 9 bf, cI aC m_ends 9 ef, cI aC m_carried 9 cf, oX12 g0 m_refused m_kind m_figure m_weight m_got m_setting (nI n) (nI sn) dn m_tape m_letter m_letterAt m_told tp mat stm m_kept him ki crs m_price m_offer m_gets m_yes m_buys m_ends m_carried m_row rm m_keptRow m_likeGets m_likePrice m_ahead, cI aC m_refused 7 u_109] := jn_N (wr := [cI aC m_kind 9 kf, cI aC m_figure 9 ff, cI aC m_weight 9 wf, cI aC m_setting 5 stf, cI aC m_price 81 pf, cI aC m_offer 81 of, cI aC m_gets 90 gf, cI aC m_yes 9 yf, cI aC m_buys 9 bf, cI aC m_ends 9 ef, cI aC m_carried 9 cf]) hFc hk1 hP1 hD1 hP hD [12, 11] [0, 1, 2, 3, 4, 5, 6, 7, 8, 9, 10] rfl rfl (by decide) (by decide)
    have hP := hpd9.1
    have hD := hpd9.2
    clear hpd9
    generalize H1 = H at hP hS ⊢
    clear hPc hDc hFc hz1 hk1 hP1 hD1 ht hvm
    obtain ⟨hv9, -⟩ := hw_108
    have hpd9 := pd_N (cx := [oX12 g0 m_refused m_kind m_figure m_weight m_got m_setting (nI n) (nI sn) dn m_tape m_letter m_letterAt m_told tp mat stm m_kept him ki crs m_price m_offer m_gets m_yes m_buys m_ends m_carried m_row rm m_keptRow m_likeGets m_likePrice m_ahead, cI aC m_kind 9 kf, cI aC m_figure 9 ff, cI aC m_weight 9 wf, cI aC m_setting 5 stf, cI aC m_price 81 pf, cI aC m_offer 81 of, cI aC m_gets 90 gf, cI aC m_yes 9 yf, cI aC m_buys 9 bf, cI aC m_ends 9 ef, cI aC m_carried 9 cf, cI aC m_refused 7 u_109]) hP hD [11, 0, 1, 2, 3, 4, 5, 6, 7, 8, 9, 10, 12] (by decide) rfl
    have hP9 := hpd9.1
    have hD9 := hpd9.2
    refine W.widen (k := 0) (n := 0) (by omega) (by omega) ?_
    exact W.iret (v := x_108) hx hb hr (fun t ht hW => ⟨⟨x_108, (pf, of, gf, yf, bf, ef, cf, u_109), rfl, by rw [hv9]; exact LGR_o (ovm_y hn8 hz_1 c_2), by rw [ht]; exact hP9, va_K.moved hW.alike hK, hD9⟩, hS.F ht⟩) hS.2.2 dX12_league_13

set_option maxHeartbeats 1000000 in
set_option maxRecDepth 100000 in
/-- X12_shaken -/
theorem c_X12_shaken (l : Launch) (dC : Nat → ClassId) (dI : Nat → Nat → Nat) (aC : Nat → ClassId) (sz : Nat) (g0 : Nat) (m_refused : Nat) (m_kind : Nat) (m_figure : Nat) (m_weight : Nat) (m_got : Nat) (m_setting : Nat) (m_tape : Nat) (m_letter : Nat) (m_letterAt : Nat) (m_told : Nat) (m_kept : Nat) (m_price : Nat) (m_offer : Nat) (m_gets : Nat) (m_yes : Nat) (m_buys : Nat) (m_ends : Nat) (m_carried : Nat) (m_row : Nat) (m_keptRow : Nat) (m_likeGets : Nat) (m_likePrice : Nat) (m_ahead : Nat) (tp : Int32) (mat : Int32) (stm : Int32) (him : Int32) (ki : Int32) (crs : Int32) (rm : Int32) (n : Nat) (sn : Nat) (dn : Int32) (kf : Nat → Int32) (ff : Nat → Int32) (wf : Nat → Int32) (stf : Nat → Int32) (pf : Nat → Int32) (of : Nat → Int32) (gf : Nat → Int32) (yf : Nat → Int32) (bf : Nat → Int32) (ef : Nat → Int32) (cf : Nat → Int32) (K : Nat → Nat) (F : Nat → Nat) (W0 : Nat → Nat) (S5 : Nat → Nat) (mr : Nat → Int32) (a1 : Int32) (hev : EVS n sn dn K F W0 S5 kf ff wf stf) : Met l yX12_shaken (wW yX12_shaken cX12_shaken 11 (some .long)) ({ frames := 5, cells := 0, slots := 0, locals := 115 } : Room) (va_Pc [Value.ref g0, Value.int a1] (fun U => U.heap.size = sz ∧ va_P (dC, dI) classes [oX12 g0 m_refused m_kind m_figure m_weight m_got m_setting (nI n) (nI sn) dn m_tape m_letter m_letterAt m_told tp mat stm m_kept him ki crs m_price m_offer m_gets m_yes m_buys m_ends m_carried m_row rm m_keptRow m_likeGets m_likePrice m_ahead, cI aC m_kind 9 kf, cI aC m_figure 9 ff, cI aC m_weight 9 wf, cI aC m_setting 5 stf, cI aC m_price 81 pf, cI aC m_offer 81 of, cI aC m_gets 90 gf, cI aC m_yes 9 yf, cI aC m_buys 9 bf, cI aC m_ends 9 ef, cI aC m_carried 9 cf, cI aC m_refused 7 mr] U.heap ∧ va_K (dC, dI) classes (TY aC) U ∧ va_D (fun _ => True) [oX12 g0 m_refused m_kind m_figure m_weight m_got m_setting (nI n) (nI sn) dn m_tape m_letter m_letterAt m_told tp mat stm m_kept him ki crs m_price m_offer m_gets m_yes m_buys m_ends m_carried m_row rm m_keptRow m_likeGets m_likePrice m_ahead, cI aC m_kind 9 kf, cI aC m_figure 9 ff, cI aC m_weight 9 wf, cI aC m_setting 5 stf, cI aC m_price 81 pf, cI aC m_offer 81 of, cI aC m_gets 90 gf, cI aC m_yes 9 yf, cI aC m_buys 9 bf, cI aC m_ends 9 ef, cI aC m_carried 9 cf, cI aC m_refused 7 mr] ∧ NX U)) (va_Ql (fun (r : Int64) (u : (Nat → Int32) × (Nat → Int32) × (Nat → Int32) × (Nat → Int32) × (Nat → Int32) × (Nat → Int32) × (Nat → Int32) × (Nat → Int32)) => match u with | (pf2, of2, gf2, yf2, bf2, ef2, cf2, mr2) => r = rShk n sn dn K F W0 S5 a1) (fun (u : (Nat → Int32) × (Nat → Int32) × (Nat → Int32) × (Nat → Int32) × (Nat → Int32) × (Nat → Int32) × (Nat → Int32) × (Nat → Int32)) (t : State) => match u with | (pf2, of2, gf2, yf2, bf2, ef2, cf2, mr2) => va_P (dC, dI) classes [oX12 g0 m_refused m_kind m_figure m_weight m_got m_setting (nI n) (nI sn) dn m_tape m_letter m_letterAt m_told tp mat stm m_kept him ki crs m_price m_offer m_gets m_yes m_buys m_ends m_carried m_row rm m_keptRow m_likeGets m_likePrice m_ahead, cI aC m_kind 9 kf, cI aC m_figure 9 ff, cI aC m_weight 9 wf, cI aC m_setting 5 stf, cI aC m_price 81 pf2, cI aC m_offer 81 of2, cI aC m_gets 90 gf2, cI aC m_yes 9 yf2, cI aC m_buys 9 bf2, cI aC m_ends 9 ef2, cI aC m_carried 9 cf2, cI aC m_refused 7 mr2] t.heap ∧ va_K (dC, dI) classes (TY aC) t ∧ va_D (va_A [oX12 g0 m_refused m_kind m_figure m_weight m_got m_setting (nI n) (nI sn) dn m_tape m_letter m_letterAt m_told tp mat stm m_kept him ki crs m_price m_offer m_gets m_yes m_buys m_ends m_carried m_row rm m_keptRow m_likeGets m_likePrice m_ahead, cI aC m_kind 9 kf, cI aC m_figure 9 ff, cI aC m_weight 9 wf, cI aC m_setting 5 stf, cI aC m_price 81 pf, cI aC m_offer 81 of, cI aC m_gets 90 gf, cI aC m_yes 9 yf, cI aC m_buys 9 bf, cI aC m_ends 9 ef, cI aC m_carried 9 cf, cI aC m_refused 7 mr] sz) [oX12 g0 m_refused m_kind m_figure m_weight m_got m_setting (nI n) (nI sn) dn m_tape m_letter m_letterAt m_told tp mat stm m_kept him ki crs m_price m_offer m_gets m_yes m_buys m_ends m_carried m_row rm m_keptRow m_likeGets m_likePrice m_ahead, cI aC m_kind 9 kf, cI aC m_figure 9 ff, cI aC m_weight 9 wf, cI aC m_setting 5 stf, cI aC m_price 81 pf2, cI aC m_offer 81 of2, cI aC m_gets 90 gf2, cI aC m_yes 9 yf2, cI aC m_buys 9 bf2, cI aC m_ends 9 ef2, cI aC m_carried 9 cf2, cI aC m_refused 7 mr2]) (va_A [oX12 g0 m_refused m_kind m_figure m_weight m_got m_setting (nI n) (nI sn) dn m_tape m_letter m_letterAt m_told tp mat stm m_kept him ki crs m_price m_offer m_gets m_yes m_buys m_ends m_carried m_row rm m_keptRow m_likeGets m_likePrice m_ahead, cI aC m_kind 9 kf, cI aC m_figure 9 ff, cI aC m_weight 9 wf, cI aC m_setting 5 stf, cI aC m_price 81 pf, cI aC m_offer 81 of, cI aC m_gets 90 gf, cI aC m_yes 9 yf, cI aC m_buys 9 bf, cI aC m_ends 9 ef, cI aC m_carried 9 cf, cI aC m_refused 7 mr] sz)) 0 0 (va_A [oX12 g0 m_refused m_kind m_figure m_weight m_got m_setting (nI n) (nI sn) dn m_tape m_letter m_letterAt m_told tp mat stm m_kept him ki crs m_price m_offer m_gets m_yes m_buys m_ends m_carried m_row rm m_keptRow m_likeGets m_likePrice m_ahead, cI aC m_kind 9 kf, cI aC m_figure 9 ff, cI aC m_weight 9 wf, cI aC m_setting 5 stf, cI aC m_price 81 pf, cI aC m_offer 81 of, cI aC m_gets 90 gf, cI aC m_yes 9 yf, cI aC m_buys 9 bf, cI aC m_ends 9 ef, cI aC m_carried 9 cf, cI aC m_refused 7 mr] sz) := by
  refine Met.ofW (cc := cX12_shaken) (maxL := 11) (ret := (some .long)) (by decide) rfl ?_
  intro p e s m args below meth c s₁ B hml hv
  obtain ⟨rfl, hsz, hP, hK, hD0, hN⟩ := hv
  have hx := B.exec
  have hb := B.bytes
  have hr := B.returns
  have hts0 := atoms_spec (ws := (wW yX12_shaken cX12_shaken 11 (some .long))) B.pre
  have hts : ∀ w9 ∈ lw_G, w9.before ([Value.ref g0, Value.int a1] : List Value).toArray s = true := fun w9 h9 => hts0 w9 (List.mem_cons_of_mem _ h9)
  have hown : s.vm.findClass RX12 = some m.cls := findClass_of_methodNamed (x := yX12_shaken) B.named
  have hlocks := B.notSynchronized
  subst hsz
  have hD := hD0.self (sz := s.heap.size)
  generalize hAe : va_A [oX12 g0 m_refused m_kind m_figure m_weight m_got m_setting (nI n) (nI sn) dn m_tape m_letter m_letterAt m_told tp mat stm m_kept him ki crs m_price m_offer m_gets m_yes m_buys m_ends m_carried m_row rm m_keptRow m_likeGets m_likePrice m_ahead, cI aC m_kind 9 kf, cI aC m_figure 9 ff, cI aC m_weight 9 wf, cI aC m_setting 5 stf, cI aC m_price 81 pf, cI aC m_offer 81 of, cI aC m_gets 90 gf, cI aC m_yes 9 yf, cI aC m_buys 9 bf, cI aC m_ends 9 ef, cI aC m_carried 9 cf, cI aC m_refused 7 mr] s.heap.size = A at hD ⊢
  have hA : ∀ q : Nat, s.heap.size ≤ q → A q := fun q h => by rw [← hAe]; exact Or.inr h
  obtain ⟨H, hHe⟩ : ∃ H : Heap, H = s.heap := ⟨_, rfl⟩
  have hS : va_S A s.heap H [] := by rw [hHe]; exact va_S.rf
  have hP : va_P (dC, dI) classes [oX12 g0 m_refused m_kind m_figure m_weight m_got m_setting (nI n) (nI sn) dn m_tape m_letter m_letterAt m_told tp mat stm m_kept him ki crs m_price m_offer m_gets m_yes m_buys m_ends m_carried m_row rm m_keptRow m_likeGets m_likePrice m_ahead, cI aC m_kind 9 kf, cI aC m_figure 9 ff, cI aC m_weight 9 wf, cI aC m_setting 5 stf, cI aC m_price 81 pf, cI aC m_offer 81 of, cI aC m_gets 90 gf, cI aC m_yes 9 yf, cI aC m_buys 9 bf, cI aC m_ends 9 ef, cI aC m_carried 9 cf, cI aC m_refused 7 mr] H := by rw [hHe]; exact hP
  have hl := lv_entry ([Value.ref g0, Value.int a1]) (n := 11) (Nat.le_of_ble_eq_true rfl)
  rw [lg_entry_eq]
  generalize (lg_sl ([Value.ref g0, Value.int a1]) ++ List.replicate (11 - (lg_sl ([Value.ref g0, Value.int a1])).length) Slot.unset).toArray = ls at hl ⊢
  have hl : lv_has ls 11 [(0, Value.ref g0), (1, Value.int a1)] := hl
  rw [← hHe]
  have hn8 := EVS_n hev
  have hp8 := p28 hn8
  have h54 := hev.2.2.1.2.2.2
  have hs9 := w_le (W := W0) (a := sn) (k := n - sn) (fun j q => ((HW_of hev.1).2 j q).2) (by have := sn_le hev; omega) hn8
  refine lv_iload_n hx hb dX12_shaken_0 rfl (lv_at hl 1 rfl) ?_
  refine lv_iconst (v := 0) hx hb dX12_shaken_1 (by decide) ?_
  refine lv_iconst (v := 1) hx hb dX12_shaken_2 (by decide) ?_
  have hpd9 := pdf_N (cx := []) hP hD hS hA [] (by decide) rfl
  have hPc := hpd9.1
  have hDc := hpd9.2.1
  have hFc := hpd9.2.2
  clear hpd9
  refine va_calli (va_runS (As := [Value.int a1, Value.int 0, Value.int 1]) (rest := []) ⟨hx, hb, hml, hown, hts⟩ (c_X12_isIn l dC dI aC H.size a1 0 1 ) ⟨(callB_of 3 hts (gG kw_846) rfl rfl rfl (hts _ (gw kw_13 rfl)) (hts _ (gw kw_844 rfl)) hd_X12_isIn ⟨Nat.le_of_ble_eq_true rfl, Nat.le_of_ble_eq_true rfl⟩), (hts _ (gw kw_845 rfl))⟩ ⟨fb_std, pre_std hPc hK hDc hN⟩ rfl rfl hl.1 rfl (lv_room (Nat.le_of_ble_eq_true rfl)) dX12_shaken_3 ⟨Nat.le_of_ble_eq_true rfl, Nat.le_of_ble_eq_true rfl⟩) hS (fun q _ h => hFc q h) hFc (fun x_1 u9 t9 H1 locs ht hvm hw_1 hB hz1 hk1 hS => ?_)
  obtain ⟨hP1, hK1, hD1⟩ := hB
  rw [ht] at hP1
  clear hK1
  try dsimp only at hw_1
  have hpd9 : PDx (dC, dI) classes A H1 [oX12 g0 m_refused m_kind m_figure m_weight m_got m_setting (nI n) (nI sn) dn m_tape m_letter m_letterAt m_told tp mat stm m_kept him ki crs m_price m_offer m_gets m_yes m_buys m_ends m_carried m_row rm m_keptRow m_likeGets m_likePrice m_ahead, cI aC m_kind 9 kf, cI aC m_figure 9 ff, cI aC m_weight 9 wf, cI aC m_setting 5 stf, cI aC m_price 81 pf, cI aC m_offer 81 of, cI aC m_gets 90 gf, cI aC m_yes 9 yf, cI aC m_buys 9 bf, cI aC m_ends 9 ef, cI aC m_carried 9 cf, cI aC m_refused 7 mr] := jn_N (wr := [oX12 g0 m_refused m_kind m_figure m_weight m_got m_setting (nI n) (nI sn) dn m_tape m_letter m_letterAt m_told tp mat stm m_kept him ki crs m_price m_offer m_gets m_yes m_buys m_ends m_carried m_row rm m_keptRow m_likeGets m_likePrice m_ahead, cI aC m_kind 9 kf, cI aC m_figure 9 ff, cI aC m_weight 9 wf, cI aC m_setting 5 stf, cI aC m_price 81 pf, cI aC m_offer 81 of, cI aC m_gets 90 gf, cI aC m_yes 9 yf, cI aC m_buys 9 bf, cI aC m_ends 9 ef, cI aC m_carried 9 cf, cI aC m_refused 7 mr]) hFc hk1 hP1 hD1 hP hD [] [0, 1, 2, 3, 4, 5, 6, 7, 8, 9, 10, 11, 12] rfl rfl (by decide) (by decide)
  have hP := hpd9.1
  have hD := hpd9.2
  clear hpd9
  generalize H1 = H at hP hS ⊢
  clear hPc hDc hFc hz1 hk1 hP1 hD1 ht hvm
  have hz_3 := hw_1
  refine lv_if_ne (tgt := 16) hx hb dX12_shaken_6 (by decide) (fun c_2 => ?_) (fun c_2 => ?_)
  · refine lv_aload_n hx hb dX12_shaken_16 rfl (lv_at hl 0 rfl) ?_
    have hpd9 := pdf_N (cx := [oX12 g0 m_refused m_kind m_figure m_weight m_got m_setting (nI n) (nI sn) dn m_tape m_letter m_letterAt m_told tp mat stm m_kept him ki crs m_price m_offer m_gets m_yes m_buys m_ends m_carried m_row rm m_keptRow m_likeGets m_likePrice m_ahead]) hP hD hS hA [0] (by decide) rfl
    have hPc := hpd9.1
    have hDc := hpd9.2.1
    have hFc := hpd9.2.2
    clear hpd9
    refine va_calli (va_runV (As := []) (rest := []) ⟨hx, hb, hml, hown, hts⟩ (c_X12_isOver l dC dI aC H.size g0 m_refused m_kind m_figure m_weight m_got m_setting m_tape m_letter m_letterAt m_told m_kept m_price m_offer m_gets m_yes m_buys m_ends m_carried m_row m_keptRow m_likeGets m_likePrice m_ahead (nI n) (nI sn) dn tp mat stm him ki crs rm ) ⟨(callB_of 0 hts (gG kw_994) rfl rfl rfl (hts _ (gw kw_13 rfl)) (hts _ (gw kw_991 rfl)) hd_X12_isOver ⟨Nat.le_of_ble_eq_true rfl, Nat.le_of_ble_eq_true rfl⟩), (hts _ (gw kw_993 rfl)), (hts _ (gw ks_58 rfl))⟩ ⟨fb_std, va_recv (q := (RX12, TX12, 33)) hK hPc (ci := 12) (q0 := 0) rfl rfl, pre_std hPc hK hDc hN⟩ rfl rfl hl.1 rfl (lv_room (Nat.le_of_ble_eq_true rfl)) dX12_shaken_17 ⟨Nat.le_of_ble_eq_true rfl, Nat.le_of_ble_eq_true rfl⟩) hS (fun q _ h => hFc q h) hFc (fun x_3 u9 t9 H1 locs ht hvm hw_3 hB hz1 hk1 hS => ?_)
    obtain ⟨hP1, hK1, hD1⟩ := hB
    rw [ht] at hP1
    clear hK1
    try dsimp only at hw_3
    have hpd9 : PDx (dC, dI) classes A H1 [cI aC m_kind 9 kf, cI aC m_figure 9 ff, cI aC m_weight 9 wf, cI aC m_setting 5 stf, cI aC m_price 81 pf, cI aC m_offer 81 of, cI aC m_gets 90 gf, cI aC m_yes 9 yf, cI aC m_buys 9 bf, cI aC m_ends 9 ef, cI aC m_carried 9 cf, cI aC m_refused 7 mr, oX12 g0 m_refused m_kind m_figure m_weight m_got m_setting (nI n) (nI sn) dn m_tape m_letter m_letterAt m_told tp mat stm m_kept him ki crs m_price m_offer m_gets m_yes m_buys m_ends m_carried m_row rm m_keptRow m_likeGets m_likePrice m_ahead] := jn_N (wr := [cI aC m_kind 9 kf, cI aC m_figure 9 ff, cI aC m_weight 9 wf, cI aC m_setting 5 stf, cI aC m_price 81 pf, cI aC m_offer 81 of, cI aC m_gets 90 gf, cI aC m_yes 9 yf, cI aC m_buys 9 bf, cI aC m_ends 9 ef, cI aC m_carried 9 cf, cI aC m_refused 7 mr]) hFc hk1 hP1 hD1 hP hD [0] [1, 2, 3, 4, 5, 6, 7, 8, 9, 10, 11, 12] rfl rfl (by decide) (by decide)
    have hP := hpd9.1
    have hD := hpd9.2
    clear hpd9
    generalize H1 = H at hP hS ⊢
    clear hPc hDc hFc hz1 hk1 hP1 hD1 ht hvm
    have hz_17 := hw_3
    refine lv_if_eq (tgt := 30) hx hb dX12_shaken_20 (by decide) (fun c_4 => ?_) (fun c_4 => ?_)
    · have hov := ovm_n hz_17 c_4
      have hsn := sn_lt hev hov
      refine lv_aload_n hx hb dX12_shaken_30 rfl (lv_at hl 0 rfl) ?_
      have hpd9 := pdf_N (cx := [oX12 g0 m_refused m_kind m_figure m_weight m_got m_setting (nI n) (nI sn) dn m_tape m_letter m_letterAt m_told tp mat stm m_kept him ki crs m_price m_offer m_gets m_yes m_buys m_ends m_carried m_row rm m_keptRow m_likeGets m_likePrice m_ahead, cI aC m_kind 9 kf, cI aC m_figure 9 ff, cI aC m_weight 9 wf, cI aC m_setting 5 stf, cI aC m_price 81 pf, cI aC m_offer 81 of, cI aC m_gets 90 gf, cI aC m_yes 9 yf, cI aC m_buys 9 bf, cI aC m_ends 9 ef, cI aC m_carried 9 cf]) hP hD hS hA [12, 0, 1, 2, 3, 4, 5, 6, 7, 8, 9, 10] (by decide) rfl
      have hPc := hpd9.1
      have hDc := hpd9.2.1
      have hFc := hpd9.2.2
      clear hpd9
      refine va_callv (va_runV (As := []) (rest := []) ⟨hx, hb, hml, hown, hts⟩ (c_X12_solvesAll l dC dI aC H.size g0 m_refused m_kind m_figure m_weight m_got m_setting m_tape m_letter m_letterAt m_told m_kept m_price m_offer m_gets m_yes m_buys m_ends m_carried m_row m_keptRow m_likeGets m_likePrice m_ahead (nI sn) dn tp mat stm him ki crs rm n kf ff wf stf pf of gf yf bf ef cf K F W0 (S5 0) (PO n K F W0 S5) (hev.1) (PO_cl hev)) ⟨(callB_of 0 hts (gG kw_896) rfl rfl rfl (hts _ (gw kw_13 rfl)) (hts _ (gw kw_893 rfl)) hd_X12_solvesAll ⟨Nat.le_of_ble_eq_true rfl, Nat.le_of_ble_eq_true rfl⟩), (hts _ (gw kw_895 rfl)), (hts _ (gw ks_45 rfl))⟩ ⟨fb_std, va_recv (q := (RX12, TX12, 33)) hK hPc (ci := 12) (q0 := 0) rfl rfl, pre_std hPc hK hDc hN⟩ rfl rfl hl.1 rfl (lv_room (Nat.le_of_ble_eq_true rfl)) dX12_shaken_31 ⟨Nat.le_of_ble_eq_true rfl, Nat.le_of_ble_eq_true rfl⟩) hS (fun q _ h => hFc q h) hFc (fun u9 t9 H1 locs ht hvm hw_5 hB hz1 hk1 hS => ?_)
      obtain ⟨u_6, u_7, u_8, u_9, u_10, u_11, u_12⟩ := u9
      obtain ⟨hP1, hK1, hD1⟩ := hB
      rw [ht] at hP1
      clear hK1
      try dsimp only at hw_5
      have hpd9 : PDx (dC, dI) classes A H1 [cI aC m_refused 7 mr, oX12 g0 m_refused m_kind m_figure m_weight m_got m_setting (nI n) (nI sn) dn m_tape m_letter m_letterAt m_told tp mat stm m_kept him ki crs m_price m_offer m_gets m_yes m_buys m_ends m_carried m_row rm m_keptRow m_likeGets m_likePrice m_ahead, cI aC m_kind 9 kf, cI aC m_figure 9 ff, cI aC m_weight 9 wf, cI aC m_setting 5 stf, cI aC m_price 81 u_6, cI aC m_offer 81 u_7, cI aC m_gets 90 u_8, cI aC m_yes 9 u_9, cI aC m_buys 9 u_10, cI aC m_ends 9 u_11, cI aC m_carried 9 u_12] := jn_N (wr := [cI aC m_refused 7 mr]) hFc hk1 hP1 hD1 hP hD [12, 0, 1, 2, 3, 4, 5, 6, 7, 8, 9, 10] [11] rfl rfl (by decide) (by decide)
      have hP := hpd9.1
      have hD := hpd9.2
      clear hpd9
      generalize H1 = H at hP hS ⊢
      clear hPc hDc hFc hz1 hk1 hP1 hD1 ht hvm
      have hm1 := hw_5
      refine lv_aload_n hx hb dX12_shaken_34 rfl (lv_at hl 0 rfl) ?_
      refine lv_aload_n hx hb dX12_shaken_35 rfl (lv_at hl 0 rfl) ?_
      refine va_get (D := (dC, dI)) (ci := 12) (v := Value.int (nI sn)) (C := RX12) (T := TX12) (N := 33) hx hb hts inX12 hown hK hP 1 rfl rfl 7 (by decide) (hts _ (gw kw_724 rfl)) (fun _ h9 => h9) rfl dX12_shaken_36 ?_
      have hpd9 := pdf_N (cx := [oX12 g0 m_refused m_kind m_figure m_weight m_got m_setting (nI n) (nI sn) dn m_tape m_letter m_letterAt m_told tp mat stm m_kept him ki crs m_price m_offer m_gets m_yes m_buys m_ends m_carried m_row rm m_keptRow m_likeGets m_likePrice m_ahead]) hP hD hS hA [1] (by decide) rfl
      have hPc := hpd9.1
      have hDc := hpd9.2.1
      have hFc := hpd9.2.2
      clear hpd9
      refine va_calli (va_runV (As := [Value.int (nI sn)]) (rest := []) ⟨hx, hb, hml, hown, hts⟩ (c_X12_leftFrom l dC dI aC H.size g0 m_refused m_kind m_figure m_weight m_got m_setting m_tape m_letter m_letterAt m_told m_kept m_price m_offer m_gets m_yes m_buys m_ends m_carried m_row m_keptRow m_likeGets m_likePrice m_ahead (nI sn) dn tp mat stm him ki crs rm n sn (by omega)) ⟨(callB_of 1 hts (gG kw_922) rfl rfl rfl (hts _ (gw kw_13 rfl)) (hts _ (gw kw_919 rfl)) hd_X12_leftFrom ⟨Nat.le_of_ble_eq_true rfl, Nat.le_of_ble_eq_true rfl⟩), (hts _ (gw kw_921 rfl)), (hts _ (gw ks_50 rfl))⟩ ⟨fb_std, va_recv (q := (RX12, TX12, 33)) hK hPc (ci := 12) (q0 := 0) rfl rfl, pre_std hPc hK hDc hN⟩ rfl rfl hl.1 rfl (lv_room (Nat.le_of_ble_eq_true rfl)) dX12_shaken_39 ⟨Nat.le_of_ble_eq_true rfl, Nat.le_of_ble_eq_true rfl⟩) hS (fun q _ h => hFc q h) hFc (fun x_13 u9 t9 H1 locs ht hvm hw_13 hB hz1 hk1 hS => ?_)
      obtain ⟨hP1, hK1, hD1⟩ := hB
      rw [ht] at hP1
      clear hK1
      try dsimp only at hw_13
      have hpd9 : PDx (dC, dI) classes A H1 [cI aC m_refused 7 mr, cI aC m_kind 9 kf, cI aC m_figure 9 ff, cI aC m_weight 9 wf, cI aC m_setting 5 stf, cI aC m_price 81 u_6, cI aC m_offer 81 u_7, cI aC m_gets 90 u_8, cI aC m_yes 9 u_9, cI aC m_buys 9 u_10, cI aC m_ends 9 u_11, cI aC m_carried 9 u_12, oX12 g0 m_refused m_kind m_figure m_weight m_got m_setting (nI n) (nI sn) dn m_tape m_letter m_letterAt m_told tp mat stm m_kept him ki crs m_price m_offer m_gets m_yes m_buys m_ends m_carried m_row rm m_keptRow m_likeGets m_likePrice m_ahead] := jn_N (wr := [cI aC m_refused 7 mr, cI aC m_kind 9 kf, cI aC m_figure 9 ff, cI aC m_weight 9 wf, cI aC m_setting 5 stf, cI aC m_price 81 u_6, cI aC m_offer 81 u_7, cI aC m_gets 90 u_8, cI aC m_yes 9 u_9, cI aC m_buys 9 u_10, cI aC m_ends 9 u_11, cI aC m_carried 9 u_12]) hFc hk1 hP1 hD1 hP hD [1] [0, 2, 3, 4, 5, 6, 7, 8, 9, 10, 11, 12] rfl rfl (by decide) (by decide)
      have hP := hpd9.1
      have hD := hpd9.2
      clear hpd9
      generalize H1 = H at hP hS ⊢
      clear hPc hDc hFc hz1 hk1 hP1 hD1 ht hvm
      have hlf := hw_13
      refine lv_iconst (v := 1) hx hb dX12_shaken_42 (by decide) ?_
      refine lv_aload_n hx hb dX12_shaken_43 rfl (lv_at hl 0 rfl) ?_
      refine va_get (D := (dC, dI)) (ci := 12) (v := Value.int (nI sn)) (C := RX12) (T := TX12) (N := 33) hx hb hts inX12 hown hK hP 12 rfl rfl 7 (by decide) (hts _ (gw kw_724 rfl)) (fun _ h9 => h9) rfl dX12_shaken_44 ?_
      refine lv_ishl hx hb dX12_shaken_47 ?_
      refine lv_topi (fun x_14 e_14 => ?_)
      refine lv_iconst (v := -1) hx hb dX12_shaken_48 (by decide) ?_
      refine lv_ixor hx hb dX12_shaken_49 ?_
      refine lv_topi (fun x_15 e_15 => ?_)
      refine lv_iand hx hb dX12_shaken_50 ?_
      refine lv_topi (fun x_16 e_16 => ?_)
      refine lv_istore_n (lv' := [(2, Value.int x_16), (0, Value.ref g0), (1, Value.int a1)]) hx hb dX12_shaken_51 rfl hl (by decide) rfl (fun ls hl => ?_)
      have hyg : ∀ b, b < 32 → bt x_16 b = decide (sn < b ∧ b < n) := fun b hb => by rw [e_16, e_15, e_14]; exact yng_bits ⟨hsn, hn8⟩ hlf b hb
      have hYb : ∀ q, q < n → q ≤ sn → bt (zY (PO n K F W0 S5) sn) q = decide (q = sn) := fun q h1 h2 => by rw [((PO_cl hev) sn hsn).1.2.2.1 q (by omega)]; exact decide_eq_decide.mpr ⟨fun z => z.elim id (fun w => by omega), Or.inl⟩
      refine lv_lconst (v := 0) hx hb dX12_shaken_52 (by decide) ?_
      refine lv_lstore_n (lv' := [(3, Value.long 0), (2, Value.int x_16), (0, Value.ref g0), (1, Value.int a1)]) hx hb dX12_shaken_53 rfl hl (by decide) rfl (fun ls hl => ?_)
      refine lv_lconst (v := 1) hx hb dX12_shaken_54 (by decide) ?_
      refine lv_topl (fun x_17 e_17 => ?_)
      have h9 : x_17 = lI (100 ^ (sn + 1 - (sn + 1))) := by rw [e_17, Nat.sub_self]; rfl
      subst h9
      refine lv_lstore (lv' := [(5, Value.long (lI (100 ^ (sn + 1 - (sn + 1))))), (3, Value.long 0), (2, Value.int x_16), (0, Value.ref g0), (1, Value.int a1)]) hx hb dX12_shaken_55 hl (by decide) rfl (fun ls hl => ?_)
      refine lv_aload_n hx hb dX12_shaken_57 rfl (lv_at hl 3 rfl) ?_
      refine va_get (D := (dC, dI)) (ci := 12) (v := Value.int (nI sn)) (C := RX12) (T := TX12) (N := 33) hx hb hts inX12 hown hK hP 12 rfl rfl 7 (by decide) (hts _ (gw kw_724 rfl)) (fun _ h9 => h9) rfl dX12_shaken_58 ?_
      refine lv_iconst (v := 1) hx hb dX12_shaken_61 (by decide) ?_
      refine lv_iadd hx hb dX12_shaken_62 ?_
      refine lv_topi (fun x_18 e_18 => ?_)
      refine lv_istore (lv' := [(7, Value.int x_18), (5, Value.long (lI (100 ^ (sn + 1 - (sn + 1))))), (3, Value.long 0), (2, Value.int x_16), (0, Value.ref g0), (1, Value.int a1)]) hx hb dX12_shaken_63 hl (by decide) rfl (fun ls hl => ?_)
      have h9 : x_18 = nI (sn + 1) := by rw [e_18, nI_1]
      subst h9
      have lp_65 : ∀ (fu : Nat) (j : Nat) (hfu : n - j < fu) (hj : sn < j ∧ j ≤ n) (H : Heap) (locs : List Loc) (ls : Array Slot), va_P (dC, dI) classes [cI aC m_refused 7 mr, cI aC m_kind 9 kf, cI aC m_figure 9 ff, cI aC m_weight 9 wf, cI aC m_setting 5 stf, cI aC m_price 81 u_6, cI aC m_offer 81 u_7, cI aC m_gets 90 u_8, cI aC m_yes 9 u_9, cI aC m_buys 9 u_10, cI aC m_ends 9 u_11, cI aC m_carried 9 u_12, oX12 g0 m_refused m_kind m_figure m_weight m_got m_setting (nI n) (nI sn) dn m_tape m_letter m_letterAt m_told tp mat stm m_kept him ki crs m_price m_offer m_gets m_yes m_buys m_ends m_carried m_row rm m_keptRow m_likeGets m_likePrice m_ahead] H → va_D A [cI aC m_refused 7 mr, cI aC m_kind 9 kf, cI aC m_figure 9 ff, cI aC m_weight 9 wf, cI aC m_setting 5 stf, cI aC m_price 81 u_6, cI aC m_offer 81 u_7, cI aC m_gets 90 u_8, cI aC m_yes 9 u_9, cI aC m_buys 9 u_10, cI aC m_ends 9 u_11, cI aC m_carried 9 u_12, oX12 g0 m_refused m_kind m_figure m_weight m_got m_setting (nI n) (nI sn) dn m_tape m_letter m_letterAt m_told tp mat stm m_kept him ki crs m_price m_offer m_gets m_yes m_buys m_ends m_carried m_row rm m_keptRow m_likeGets m_likePrice m_ahead] → va_S A s.heap H locs → lv_has ls 11 [(0, Value.ref g0), (1, Value.int a1), (2, Value.int x_16), (3, Value.long 0), (5, Value.long (lI (100 ^ (j - (sn + 1))))), (7, Value.int (nI j))] → W p l e (headSpec (wW yX12_shaken cX12_shaken 11 (some .long)) ({ frames := 5, cells := 0, slots := 0, locals := 115 } : Room)).room s m ([Value.ref g0, Value.int a1] : List Value).toArray below meth c H locs 0 0 (MQ below (va_Ql (fun (r : Int64) (u : (Nat → Int32) × (Nat → Int32) × (Nat → Int32) × (Nat → Int32) × (Nat → Int32) × (Nat → Int32) × (Nat → Int32) × (Nat → Int32)) => match u with | (pf2, of2, gf2, yf2, bf2, ef2, cf2, mr2) => r = rShk n sn dn K F W0 S5 a1) (fun (u : (Nat → Int32) × (Nat → Int32) × (Nat → Int32) × (Nat → Int32) × (Nat → Int32) × (Nat → Int32) × (Nat → Int32) × (Nat → Int32)) (t : State) => match u with | (pf2, of2, gf2, yf2, bf2, ef2, cf2, mr2) => va_P (dC, dI) classes [oX12 g0 m_refused m_kind m_figure m_weight m_got m_setting (nI n) (nI sn) dn m_tape m_letter m_letterAt m_told tp mat stm m_kept him ki crs m_price m_offer m_gets m_yes m_buys m_ends m_carried m_row rm m_keptRow m_likeGets m_likePrice m_ahead, cI aC m_kind 9 kf, cI aC m_figure 9 ff, cI aC m_weight 9 wf, cI aC m_setting 5 stf, cI aC m_price 81 pf2, cI aC m_offer 81 of2, cI aC m_gets 90 gf2, cI aC m_yes 9 yf2, cI aC m_buys 9 bf2, cI aC m_ends 9 ef2, cI aC m_carried 9 cf2, cI aC m_refused 7 mr2] t.heap ∧ va_K (dC, dI) classes (TY aC) t ∧ va_D A [oX12 g0 m_refused m_kind m_figure m_weight m_got m_setting (nI n) (nI sn) dn m_tape m_letter m_letterAt m_told tp mat stm m_kept him ki crs m_price m_offer m_gets m_yes m_buys m_ends m_carried m_row rm m_keptRow m_likeGets m_likePrice m_ahead, cI aC m_kind 9 kf, cI aC m_figure 9 ff, cI aC m_weight 9 wf, cI aC m_setting 5 stf, cI aC m_price 81 pf2, cI aC m_offer 81 of2, cI aC m_gets 90 gf2, cI aC m_yes 9 yf2, cI aC m_buys 9 bf2, cI aC m_ends 9 ef2, cI aC m_carried 9 cf2, cI aC m_refused 7 mr2]) A) ([Value.ref g0, Value.int a1] : List Value).toArray s 0 0 A) (F0 m 65 ls []) := by
        intro fu
        induction fu with
        | zero => intro j hfu; exact absurd hfu (Nat.not_lt_zero _)
        | succ fu ih_65 =>
          intro j hfu hj H locs ls hP hD hS hl
          refine lv_iload hx hb dX12_shaken_65 (lv_at hl 5 rfl) ?_
          refine lv_aload_n hx hb dX12_shaken_67 rfl (lv_at hl 0 rfl) ?_
          refine va_get (D := (dC, dI)) (ci := 12) (v := Value.int (nI n)) (C := RX12) (T := TX12) (N := 33) hx hb hts inX12 hown hK hP 12 rfl rfl 6 (by decide) (hts _ (gw kw_723 rfl)) (fun _ h9 => h9) rfl dX12_shaken_68 ?_
          refine lv_icmp_ge (tgt := 88) hx hb dX12_shaken_71 (by decide) (fun c_19 => ?_) (fun c_19 => ?_)
          · have hjn : j = n := by
              rcases Nat.lt_or_ge j n with q | q
              · exact absurd c_19 (nI_ge q (by omega))
              · omega
            obtain ⟨dw, hdw⟩ : ∃ dw, dw = 100 ^ (n - 1 - sn) := ⟨_, rfl⟩
            have hdw2 : lI (100 ^ (j - (sn + 1))) = lI dw := by rw [hdw, hjn, show n - (sn + 1) = n - 1 - sn by omega]
            have hdp : dw ≤ 100 ^ 7 := by rw [hdw]; exact Nat.pow_le_pow_right (by omega) (by omega)
            have hd0 : 0 < dw := by rw [hdw]; exact Nat.pow_pos (by omega)
            have hl : lv_has ls 11 [(0, Value.ref g0), (1, Value.int a1), (2, Value.int x_16), (3, Value.long 0), (5, Value.long (lI dw)), (7, Value.int (nI j))] := by rw [← hdw2]; exact hl
            refine lv_iconst (v := 0) hx hb dX12_shaken_88 (by decide) ?_
            refine lv_istore (lv' := [(7, Value.int 0), (0, Value.ref g0), (1, Value.int a1), (2, Value.int x_16), (3, Value.long 0), (5, Value.long (lI dw))]) hx hb dX12_shaken_89 hl (by decide) rfl (fun ls hl => ?_)
            have lp_91 : ∀ (fu : Nat) (x : Nat) (u : Nat) (hfu : 2 ^ n - x < fu) (hxx : x ≤ 2 ^ n) (hu : u ≤ x * 100000000000000) (hus : u = sumr (FSH n W0 (nI (S5 1)) (zY (PO n K F W0 S5) sn) (S5 4) sn) 0 x) (H : Heap) (locs : List Loc) (ls : Array Slot), va_P (dC, dI) classes [cI aC m_refused 7 mr, cI aC m_kind 9 kf, cI aC m_figure 9 ff, cI aC m_weight 9 wf, cI aC m_setting 5 stf, cI aC m_price 81 u_6, cI aC m_offer 81 u_7, cI aC m_gets 90 u_8, cI aC m_yes 9 u_9, cI aC m_buys 9 u_10, cI aC m_ends 9 u_11, cI aC m_carried 9 u_12, oX12 g0 m_refused m_kind m_figure m_weight m_got m_setting (nI n) (nI sn) dn m_tape m_letter m_letterAt m_told tp mat stm m_kept him ki crs m_price m_offer m_gets m_yes m_buys m_ends m_carried m_row rm m_keptRow m_likeGets m_likePrice m_ahead] H → va_D A [cI aC m_refused 7 mr, cI aC m_kind 9 kf, cI aC m_figure 9 ff, cI aC m_weight 9 wf, cI aC m_setting 5 stf, cI aC m_price 81 u_6, cI aC m_offer 81 u_7, cI aC m_gets 90 u_8, cI aC m_yes 9 u_9, cI aC m_buys 9 u_10, cI aC m_ends 9 u_11, cI aC m_carried 9 u_12, oX12 g0 m_refused m_kind m_figure m_weight m_got m_setting (nI n) (nI sn) dn m_tape m_letter m_letterAt m_told tp mat stm m_kept him ki crs m_price m_offer m_gets m_yes m_buys m_ends m_carried m_row rm m_keptRow m_likeGets m_likePrice m_ahead] → va_S A s.heap H locs → lv_has ls 11 [(0, Value.ref g0), (1, Value.int a1), (2, Value.int x_16), (3, Value.long (lI u)), (5, Value.long (lI dw)), (7, Value.int (nI x))] → W p l e (headSpec (wW yX12_shaken cX12_shaken 11 (some .long)) ({ frames := 5, cells := 0, slots := 0, locals := 115 } : Room)).room s m ([Value.ref g0, Value.int a1] : List Value).toArray below meth c H locs 0 0 (MQ below (va_Ql (fun (r : Int64) (u : (Nat → Int32) × (Nat → Int32) × (Nat → Int32) × (Nat → Int32) × (Nat → Int32) × (Nat → Int32) × (Nat → Int32) × (Nat → Int32)) => match u with | (pf2, of2, gf2, yf2, bf2, ef2, cf2, mr2) => r = rShk n sn dn K F W0 S5 a1) (fun (u : (Nat → Int32) × (Nat → Int32) × (Nat → Int32) × (Nat → Int32) × (Nat → Int32) × (Nat → Int32) × (Nat → Int32) × (Nat → Int32)) (t : State) => match u with | (pf2, of2, gf2, yf2, bf2, ef2, cf2, mr2) => va_P (dC, dI) classes [oX12 g0 m_refused m_kind m_figure m_weight m_got m_setting (nI n) (nI sn) dn m_tape m_letter m_letterAt m_told tp mat stm m_kept him ki crs m_price m_offer m_gets m_yes m_buys m_ends m_carried m_row rm m_keptRow m_likeGets m_likePrice m_ahead, cI aC m_kind 9 kf, cI aC m_figure 9 ff, cI aC m_weight 9 wf, cI aC m_setting 5 stf, cI aC m_price 81 pf2, cI aC m_offer 81 of2, cI aC m_gets 90 gf2, cI aC m_yes 9 yf2, cI aC m_buys 9 bf2, cI aC m_ends 9 ef2, cI aC m_carried 9 cf2, cI aC m_refused 7 mr2] t.heap ∧ va_K (dC, dI) classes (TY aC) t ∧ va_D A [oX12 g0 m_refused m_kind m_figure m_weight m_got m_setting (nI n) (nI sn) dn m_tape m_letter m_letterAt m_told tp mat stm m_kept him ki crs m_price m_offer m_gets m_yes m_buys m_ends m_carried m_row rm m_keptRow m_likeGets m_likePrice m_ahead, cI aC m_kind 9 kf, cI aC m_figure 9 ff, cI aC m_weight 9 wf, cI aC m_setting 5 stf, cI aC m_price 81 pf2, cI aC m_offer 81 of2, cI aC m_gets 90 gf2, cI aC m_yes 9 yf2, cI aC m_buys 9 bf2, cI aC m_ends 9 ef2, cI aC m_carried 9 cf2, cI aC m_refused 7 mr2]) A) ([Value.ref g0, Value.int a1] : List Value).toArray s 0 0 A) (F0 m 91 ls []) := by
              intro fu
              induction fu with
              | zero => intro x u hfu; exact absurd hfu (Nat.not_lt_zero _)
              | succ fu ih_91 =>
                intro x u hfu hxx hu hus H locs ls hP hD hS hl
                refine lv_iload hx hb dX12_shaken_91 (lv_at hl 5 rfl) ?_
                refine lv_iconst (v := 1) hx hb dX12_shaken_93 (by decide) ?_
                refine lv_aload_n hx hb dX12_shaken_94 rfl (lv_at hl 0 rfl) ?_
                refine va_get (D := (dC, dI)) (ci := 12) (v := Value.int (nI n)) (C := RX12) (T := TX12) (N := 33) hx hb hts inX12 hown hK hP 12 rfl rfl 6 (by decide) (hts _ (gw kw_723 rfl)) (fun _ h9 => h9) rfl dX12_shaken_95 ?_
                refine lv_ishl hx hb dX12_shaken_98 ?_
                refine lv_topi (fun x_20 e_20 => ?_)
                have h9 : x_20 = nI (2 ^ n) := by rw [e_20]; exact sh1 n (by omega)
                subst h9
                refine lv_icmp_ge (tgt := 227) hx hb dX12_shaken_99 (by decide) (fun c_21 => ?_) (fun c_21 => ?_)
                · have hxe : x = 2 ^ n := by
                    rcases Nat.lt_or_ge x (2 ^ n) with q | q
                    · exact absurd c_21 (nI_ge q (by omega))
                    · omega
                  have hu9 : u = (UPN n W0 (nI (S5 1)) (zY (PO n K F W0 S5) sn) (S5 4) sn) := by rw [hus, hxe]; exact UPN_m hsn (by omega)
                  have hu6 : u < 2 ^ 63 := Nat.lt_of_le_of_lt (Nat.le_trans hu (Nat.mul_le_mul_right _ (show x ≤ 256 by omega))) (by decide +kernel)
                  have hd6 : dw < 2 ^ 63 := Nat.lt_of_le_of_lt hdp (by decide +kernel)
                  have hg0 : 0 < Nat.gcd u dw := Nat.gcd_pos_of_pos_right _ hd0
                  have hg1 : Nat.gcd u dw < 2 ^ 63 := Nat.lt_of_le_of_lt (Nat.gcd_le_right _ hd0) hd6
                  refine lv_iload_n hx hb dX12_shaken_227 rfl (lv_at hl 1 rfl) ?_
                  refine lv_if_ne (tgt := 235) hx hb dX12_shaken_228 (by decide) (fun c_22 => ?_) (fun c_22 => ?_)
                  · refine lv_lload hx hb dX12_shaken_235 (lv_at hl 4 rfl) ?_
                    refine lv_lload_n hx hb dX12_shaken_237 rfl (lv_at hl 3 rfl) ?_
                    refine lv_lload hx hb dX12_shaken_238 (lv_at hl 4 rfl) ?_
                    have hpd9 := pdf_N (cx := []) hP hD hS hA [] (by decide) rfl
                    have hPc := hpd9.1
                    have hDc := hpd9.2.1
                    have hFc := hpd9.2.2
                    clear hpd9
                    refine va_calll (va_runS (As := [Value.long (lI u), Value.long (lI dw)]) (rest := [Value.long (lI dw)]) ⟨hx, hb, hml, hown, hts⟩ (c_X12_divisor l dC dI aC H.size u dw (hu6) (⟨hd0, hd6⟩)) ⟨(callB_of 2 hts (gG kw_1086) rfl rfl rfl (hts _ (gw kw_13 rfl)) (hts _ (gw kw_1084 rfl)) hd_X12_divisor ⟨Nat.le_of_ble_eq_true rfl, Nat.le_of_ble_eq_true rfl⟩), (hts _ (gw kw_1085 rfl))⟩ ⟨fb_std, pre_std hPc hK hDc hN⟩ rfl rfl hl.1 rfl (lv_room (Nat.le_of_ble_eq_true rfl)) dX12_shaken_240 ⟨Nat.le_of_ble_eq_true rfl, Nat.le_of_ble_eq_true rfl⟩) hS (fun q _ h => hFc q h) hFc (fun x_23 u9 t9 H1 locs ht hvm hw_23 hB hz1 hk1 hS => ?_)
                    obtain ⟨hP1, hK1, hD1⟩ := hB
                    rw [ht] at hP1
                    clear hK1
                    try dsimp only at hw_23
                    have hpd9 : PDx (dC, dI) classes A H1 [cI aC m_refused 7 mr, cI aC m_kind 9 kf, cI aC m_figure 9 ff, cI aC m_weight 9 wf, cI aC m_setting 5 stf, cI aC m_price 81 u_6, cI aC m_offer 81 u_7, cI aC m_gets 90 u_8, cI aC m_yes 9 u_9, cI aC m_buys 9 u_10, cI aC m_ends 9 u_11, cI aC m_carried 9 u_12, oX12 g0 m_refused m_kind m_figure m_weight m_got m_setting (nI n) (nI sn) dn m_tape m_letter m_letterAt m_told tp mat stm m_kept him ki crs m_price m_offer m_gets m_yes m_buys m_ends m_carried m_row rm m_keptRow m_likeGets m_likePrice m_ahead] := jn_N (wr := [cI aC m_refused 7 mr, cI aC m_kind 9 kf, cI aC m_figure 9 ff, cI aC m_weight 9 wf, cI aC m_setting 5 stf, cI aC m_price 81 u_6, cI aC m_offer 81 u_7, cI aC m_gets 90 u_8, cI aC m_yes 9 u_9, cI aC m_buys 9 u_10, cI aC m_ends 9 u_11, cI aC m_carried 9 u_12, oX12 g0 m_refused m_kind m_figure m_weight m_got m_setting (nI n) (nI sn) dn m_tape m_letter m_letterAt m_told tp mat stm m_kept him ki crs m_price m_offer m_gets m_yes m_buys m_ends m_carried m_row rm m_keptRow m_likeGets m_likePrice m_ahead]) hFc hk1 hP1 hD1 hP hD [] [0, 1, 2, 3, 4, 5, 6, 7, 8, 9, 10, 11, 12] rfl rfl (by decide) (by decide)
                    have hP := hpd9.1
                    have hD := hpd9.2
                    clear hpd9
                    generalize H1 = H at hP hS ⊢
                    clear hPc hDc hFc hz1 hk1 hP1 hD1 ht hvm
                    have hdv := hw_23
                    have h9 : x_23 = lI (Nat.gcd u dw) := hdv
                    subst h9
                    refine lv_ldiv hx hb dX12_shaken_243 (fun q => by have := (lI_eq hg1 (b := 0) (by omega)).mp q; omega) ?_
                    refine lv_topl (fun x_24 e_24 => ?_)
                    have hpd9 := pd_N (cx := [oX12 g0 m_refused m_kind m_figure m_weight m_got m_setting (nI n) (nI sn) dn m_tape m_letter m_letterAt m_told tp mat stm m_kept him ki crs m_price m_offer m_gets m_yes m_buys m_ends m_carried m_row rm m_keptRow m_likeGets m_likePrice m_ahead, cI aC m_kind 9 kf, cI aC m_figure 9 ff, cI aC m_weight 9 wf, cI aC m_setting 5 stf, cI aC m_price 81 u_6, cI aC m_offer 81 u_7, cI aC m_gets 90 u_8, cI aC m_yes 9 u_9, cI aC m_buys 9 u_10, cI aC m_ends 9 u_11, cI aC m_carried 9 u_12, cI aC m_refused 7 mr]) hP hD [12, 1, 2, 3, 4, 5, 6, 7, 8, 9, 10, 11, 0] (by decide) rfl
                    have hP9 := hpd9.1
                    have hD9 := hpd9.2
                    refine W.widen (k := 0) (n := 0) (by omega) (by omega) ?_
                    exact W.lret (v := x_24) hx hb hr (fun t ht hW => ⟨⟨x_24, (u_6, u_7, u_8, u_9, u_10, u_11, u_12, mr), rfl, by rw [e_24, lI_div hd6 hg0 hg1]; unfold rShk SHV; rw [if_neg (isq_y hz_3 c_2), if_neg hov, if_neg c_22, ← hu9, ← hdw], by rw [ht]; exact hP9, va_K.moved hW.alike hK, hD9⟩, hS.F ht⟩) hS.2.2 dX12_shaken_244
                  · refine lv_lload_n hx hb dX12_shaken_231 rfl (lv_at hl 3 rfl) ?_
                    refine lv_goto (tgt := 237) hx hb dX12_shaken_232 (by decide) ?_
                    refine lv_lload_n hx hb dX12_shaken_237 rfl (lv_at hl 3 rfl) ?_
                    refine lv_lload hx hb dX12_shaken_238 (lv_at hl 4 rfl) ?_
                    have hpd9 := pdf_N (cx := []) hP hD hS hA [] (by decide) rfl
                    have hPc := hpd9.1
                    have hDc := hpd9.2.1
                    have hFc := hpd9.2.2
                    clear hpd9
                    refine va_calll (va_runS (As := [Value.long (lI u), Value.long (lI dw)]) (rest := [Value.long (lI u)]) ⟨hx, hb, hml, hown, hts⟩ (c_X12_divisor l dC dI aC H.size u dw (hu6) (⟨hd0, hd6⟩)) ⟨(callB_of 2 hts (gG kw_1086) rfl rfl rfl (hts _ (gw kw_13 rfl)) (hts _ (gw kw_1084 rfl)) hd_X12_divisor ⟨Nat.le_of_ble_eq_true rfl, Nat.le_of_ble_eq_true rfl⟩), (hts _ (gw kw_1085 rfl))⟩ ⟨fb_std, pre_std hPc hK hDc hN⟩ rfl rfl hl.1 rfl (lv_room (Nat.le_of_ble_eq_true rfl)) dX12_shaken_240 ⟨Nat.le_of_ble_eq_true rfl, Nat.le_of_ble_eq_true rfl⟩) hS (fun q _ h => hFc q h) hFc (fun x_25 u9 t9 H1 locs ht hvm hw_25 hB hz1 hk1 hS => ?_)
                    obtain ⟨hP1, hK1, hD1⟩ := hB
                    rw [ht] at hP1
                    clear hK1
                    try dsimp only at hw_25
                    have hpd9 : PDx (dC, dI) classes A H1 [cI aC m_refused 7 mr, cI aC m_kind 9 kf, cI aC m_figure 9 ff, cI aC m_weight 9 wf, cI aC m_setting 5 stf, cI aC m_price 81 u_6, cI aC m_offer 81 u_7, cI aC m_gets 90 u_8, cI aC m_yes 9 u_9, cI aC m_buys 9 u_10, cI aC m_ends 9 u_11, cI aC m_carried 9 u_12, oX12 g0 m_refused m_kind m_figure m_weight m_got m_setting (nI n) (nI sn) dn m_tape m_letter m_letterAt m_told tp mat stm m_kept him ki crs m_price m_offer m_gets m_yes m_buys m_ends m_carried m_row rm m_keptRow m_likeGets m_likePrice m_ahead] := jn_N (wr := [cI aC m_refused 7 mr, cI aC m_kind 9 kf, cI aC m_figure 9 ff, cI aC m_weight 9 wf, cI aC m_setting 5 stf, cI aC m_price 81 u_6, cI aC m_offer 81 u_7, cI aC m_gets 90 u_8, cI aC m_yes 9 u_9, cI aC m_buys 9 u_10, cI aC m_ends 9 u_11, cI aC m_carried 9 u_12, oX12 g0 m_refused m_kind m_figure m_weight m_got m_setting (nI n) (nI sn) dn m_tape m_letter m_letterAt m_told tp mat stm m_kept him ki crs m_price m_offer m_gets m_yes m_buys m_ends m_carried m_row rm m_keptRow m_likeGets m_likePrice m_ahead]) hFc hk1 hP1 hD1 hP hD [] [0, 1, 2, 3, 4, 5, 6, 7, 8, 9, 10, 11, 12] rfl rfl (by decide) (by decide)
                    have hP := hpd9.1
                    have hD := hpd9.2
                    clear hpd9
                    generalize H1 = H at hP hS ⊢
                    clear hPc hDc hFc hz1 hk1 hP1 hD1 ht hvm
                    have hdv := hw_25
                    have h9 : x_25 = lI (Nat.gcd u dw) := hdv
                    subst h9
                    refine lv_ldiv hx hb dX12_shaken_243 (fun q => by have := (lI_eq hg1 (b := 0) (by omega)).mp q; omega) ?_
                    refine lv_topl (fun x_26 e_26 => ?_)
                    have hpd9 := pd_N (cx := [oX12 g0 m_refused m_kind m_figure m_weight m_got m_setting (nI n) (nI sn) dn m_tape m_letter m_letterAt m_told tp mat stm m_kept him ki crs m_price m_offer m_gets m_yes m_buys m_ends m_carried m_row rm m_keptRow m_likeGets m_likePrice m_ahead, cI aC m_kind 9 kf, cI aC m_figure 9 ff, cI aC m_weight 9 wf, cI aC m_setting 5 stf, cI aC m_price 81 u_6, cI aC m_offer 81 u_7, cI aC m_gets 90 u_8, cI aC m_yes 9 u_9, cI aC m_buys 9 u_10, cI aC m_ends 9 u_11, cI aC m_carried 9 u_12, cI aC m_refused 7 mr]) hP hD [12, 1, 2, 3, 4, 5, 6, 7, 8, 9, 10, 11, 0] (by decide) rfl
                    have hP9 := hpd9.1
                    have hD9 := hpd9.2
                    refine W.widen (k := 0) (n := 0) (by omega) (by omega) ?_
                    exact W.lret (v := x_26) hx hb hr (fun t ht hW => ⟨⟨x_26, (u_6, u_7, u_8, u_9, u_10, u_11, u_12, mr), rfl, by rw [e_26, lI_div hu6 hg0 hg1]; unfold rShk SHV; rw [if_neg (isq_y hz_3 c_2), if_neg hov, if_pos c_22, ← hu9, ← hdw], by rw [ht]; exact hP9, va_K.moved hW.alike hK, hD9⟩, hS.F ht⟩) hS.2.2 dX12_shaken_244
                · have hlx : x < 2 ^ n := by
                    rcases Nat.lt_or_ge x (2 ^ n) with q | q
                    · exact q
                    · exact absurd (nI_le q (by omega)) c_21
                  refine lv_iload hx hb dX12_shaken_102 (lv_at hl 5 rfl) ?_
                  refine lv_iload_n hx hb dX12_shaken_104 rfl (lv_at hl 2 rfl) ?_
                  refine lv_iconst (v := -1) hx hb dX12_shaken_105 (by decide) ?_
                  refine lv_ixor hx hb dX12_shaken_106 ?_
                  refine lv_topi (fun x_27 e_27 => ?_)
                  refine lv_iand hx hb dX12_shaken_107 ?_
                  refine lv_topi (fun x_28 e_28 => ?_)
                  refine lv_if_ne (tgt := 221) hx hb dX12_shaken_108 (by decide) (fun c_29 => ?_) (fun c_29 => ?_)
                  · have hfs : (FSH n W0 (nI (S5 1)) (zY (PO n K F W0 S5) sn) (S5 4) sn) x = 0 := by unfold FSH; rw [if_neg (fun q => c_29 (by rw [e_28, e_27]; exact (bnd_mask ⟨hsn, hn8⟩ hlx hyg).mpr ((bnd_mod hlx).mpr q.1)))]
                    have hus2 : u = sumr (FSH n W0 (nI (S5 1)) (zY (PO n K F W0 S5) sn) (S5 4) sn) 0 (x + 1) := by show _ = sumr (FSH n W0 (nI (S5 1)) (zY (PO n K F W0 S5) sn) (S5 4) sn) 0 x + (FSH n W0 (nI (S5 1)) (zY (PO n K F W0 S5) sn) (S5 4) sn) (0 + x); rw [Nat.zero_add, hfs, Nat.add_zero, ← hus]
                    obtain ⟨x_30, e_30⟩ : ∃ y : Int32, y = (nI x) + 1 := ⟨_, rfl⟩
                    refine lv_iinc (v := x_30) (lv' := [(7, Value.int x_30), (0, Value.ref g0), (1, Value.int a1), (2, Value.int x_16), (3, Value.long (lI u)), (5, Value.long (lI dw))]) hx hb dX12_shaken_221 hl (k := 5) rfl (by rw [e_30]; rfl) (by decide) rfl (fun ls hl => ?_)
                    have h9 : x_30 = nI (x + 1) := by rw [e_30, nI_1]
                    subst h9
                    refine lv_goto (tgt := 91) hx hb dX12_shaken_224 (by decide) ?_
                    exact ih_91 (x + 1) u (by omega) (by omega) (by first | exact Nat.le_trans hu (Nat.mul_le_mul_right _ (Nat.le_succ x)) | (rw [Nat.succ_mul]; exact Nat.add_le_add hu hv7)) (hus2) _ _ _ (hP.sub [0, 1, 2, 3, 4, 5, 6, 7, 8, 9, 10, 11, 12] rfl) (hD.sub [0, 1, 2, 3, 4, 5, 6, 7, 8, 9, 10, 11, 12] (by decide) rfl) hS (lv_sub hl [1, 2, 3, 4, 5, 0] rfl)
                  · have hB : BND n sn x := (bnd_mask ⟨hsn, hn8⟩ hlx hyg).mp (by rw [← e_27, ← e_28]; exact c_29)
                    refine lv_aload_n hx hb dX12_shaken_111 rfl (lv_at hl 0 rfl) ?_
                    refine va_get (D := (dC, dI)) (ci := 12) (v := Value.ref m_setting) (C := RX12) (T := TX12) (N := 33) hx hb hts inX12 hown hK hP 12 rfl rfl 5 (by decide) (hts _ (gw kw_722 rfl)) (fun _ h9 => h9) rfl dX12_shaken_112 ?_
                    refine lv_iconst (v := 1) hx hb dX12_shaken_115 (by decide) ?_
                    have h_31 : vp_in 1 5 := by unfold vp_in; decide
                    refine va_iald hx hb hK hP 4 0 rfl rfl h_31 dX12_shaken_116 ?_
                    refine lv_topi (fun x_32 e_32 => ?_)
                    have h9 : x_32 = (nI (S5 1)) := by rw [e_32]; exact hev.2.1 1 (by omega)
                    subst h9
                    refine lv_aload_n hx hb dX12_shaken_117 rfl (lv_at hl 0 rfl) ?_
                    refine lv_aload_n hx hb dX12_shaken_118 rfl (lv_at hl 0 rfl) ?_
                    refine va_get (D := (dC, dI)) (ci := 12) (v := Value.ref m_yes) (C := RX12) (T := TX12) (N := 33) hx hb hts inX12 hown hK hP 12 rfl rfl 23 (by decide) (hts _ (gw kw_740 rfl)) (fun _ h9 => h9) rfl dX12_shaken_119 ?_
                    refine lv_aload_n hx hb dX12_shaken_122 rfl (lv_at hl 0 rfl) ?_
                    refine va_get (D := (dC, dI)) (ci := 12) (v := Value.int (nI sn)) (C := RX12) (T := TX12) (N := 33) hx hb hts inX12 hown hK hP 12 rfl rfl 7 (by decide) (hts _ (gw kw_724 rfl)) (fun _ h9 => h9) rfl dX12_shaken_123 ?_
                    have h_33 : vp_in (nI sn) 9 := vp_in_nI (by omega) (by omega)
                    refine va_iald hx hb hK hP 8 0 rfl rfl h_33 dX12_shaken_126 ?_
                    refine lv_topi (fun x_34 e_34 => ?_)
                    have h9 : x_34 = (zY (PO n K F W0 S5) sn) := by rw [e_34, nI_clamp (by omega)]; exact (hm1 sn hsn).2.2.2.1
                    subst h9
                    refine lv_iload hx hb dX12_shaken_127 (lv_at hl 5 rfl) ?_
                    refine lv_ixor hx hb dX12_shaken_129 ?_
                    refine lv_topi (fun x_35 e_35 => ?_)
                    have hpd9 := pdf_N (cx := [oX12 g0 m_refused m_kind m_figure m_weight m_got m_setting (nI n) (nI sn) dn m_tape m_letter m_letterAt m_told tp mat stm m_kept him ki crs m_price m_offer m_gets m_yes m_buys m_ends m_carried m_row rm m_keptRow m_likeGets m_likePrice m_ahead, cI aC m_weight 9 wf]) hP hD hS hA [12, 3] (by decide) rfl
                    have hPc := hpd9.1
                    have hDc := hpd9.2.1
                    have hFc := hpd9.2.2
                    clear hpd9
                    refine va_calli (va_runV (As := [Value.int x_35]) (rest := [Value.int (nI (S5 1))]) ⟨hx, hb, hml, hown, hts⟩ (c_X12_weightOf l dC dI aC H.size g0 m_refused m_kind m_figure m_weight m_got m_setting m_tape m_letter m_letterAt m_told m_kept m_price m_offer m_gets m_yes m_buys m_ends m_carried m_row m_keptRow m_likeGets m_likePrice m_ahead (nI sn) dn tp mat stm him ki crs rm n wf W0 x_35 (HW_of hev.1)) ⟨(callB_of 1 hts (gG kw_930) rfl rfl rfl (hts _ (gw kw_13 rfl)) (hts _ (gw kw_927 rfl)) hd_X12_weightOf ⟨Nat.le_of_ble_eq_true rfl, Nat.le_of_ble_eq_true rfl⟩), (hts _ (gw kw_929 rfl)), (hts _ (gw ks_52 rfl))⟩ ⟨fb_std, va_recv (q := (RX12, TX12, 33)) hK hPc (ci := 12) (q0 := 0) rfl rfl, pre_std hPc hK hDc hN⟩ rfl rfl hl.1 rfl (lv_room (Nat.le_of_ble_eq_true rfl)) dX12_shaken_130 ⟨Nat.le_of_ble_eq_true rfl, Nat.le_of_ble_eq_true rfl⟩) hS (fun q _ h => hFc q h) hFc (fun x_36 u9 t9 H1 locs ht hvm hw_36 hB hz1 hk1 hS => ?_)
                    obtain ⟨hP1, hK1, hD1⟩ := hB
                    rw [ht] at hP1
                    clear hK1
                    try dsimp only at hw_36
                    have hpd9 : PDx (dC, dI) classes A H1 [cI aC m_refused 7 mr, cI aC m_kind 9 kf, cI aC m_figure 9 ff, cI aC m_setting 5 stf, cI aC m_price 81 u_6, cI aC m_offer 81 u_7, cI aC m_gets 90 u_8, cI aC m_yes 9 u_9, cI aC m_buys 9 u_10, cI aC m_ends 9 u_11, cI aC m_carried 9 u_12, oX12 g0 m_refused m_kind m_figure m_weight m_got m_setting (nI n) (nI sn) dn m_tape m_letter m_letterAt m_told tp mat stm m_kept him ki crs m_price m_offer m_gets m_yes m_buys m_ends m_carried m_row rm m_keptRow m_likeGets m_likePrice m_ahead, cI aC m_weight 9 wf] := jn_N (wr := [cI aC m_refused 7 mr, cI aC m_kind 9 kf, cI aC m_figure 9 ff, cI aC m_setting 5 stf, cI aC m_price 81 u_6, cI aC m_offer 81 u_7, cI aC m_gets 90 u_8, cI aC m_yes 9 u_9, cI aC m_buys 9 u_10, cI aC m_ends 9 u_11, cI aC m_carried 9 u_12]) hFc hk1 hP1 hD1 hP hD [12, 3] [0, 1, 2, 4, 5, 6, 7, 8, 9, 10, 11] rfl rfl (by decide) (by decide)
                    have hP := hpd9.1
                    have hD := hpd9.2
                    clear hpd9
                    generalize H1 = H at hP hS ⊢
                    clear hPc hDc hFc hz1 hk1 hP1 hD1 ht hvm
                    have hWT := sh_yw (W := W0) hsn hn8 hlx hB hYb e_35
                    have hy9 := yw_le (W := W0) (y := x_35) (a := 0) (k := n) (fun j q => ((HW_of hev.1).2 j q).2) (by omega) hn8
                    rw [hWT] at hy9
                    have h9 : x_36 = nI (WX W0 (zY (PO n K F W0 S5) sn) x.testBit sn (n - 1 - sn)) := by rw [hw_36, hWT]
                    subst h9
                    refine lv_aload_n hx hb dX12_shaken_133 rfl (lv_at hl 0 rfl) ?_
                    refine lv_aload_n hx hb dX12_shaken_134 rfl (lv_at hl 0 rfl) ?_
                    refine lv_aload_n hx hb dX12_shaken_135 rfl (lv_at hl 0 rfl) ?_
                    refine va_get (D := (dC, dI)) (ci := 12) (v := Value.int (nI sn)) (C := RX12) (T := TX12) (N := 33) hx hb hts inX12 hown hK hP 11 rfl rfl 7 (by decide) (hts _ (gw kw_724 rfl)) (fun _ h9 => h9) rfl dX12_shaken_136 ?_
                    have hpd9 := pdf_N (cx := [oX12 g0 m_refused m_kind m_figure m_weight m_got m_setting (nI n) (nI sn) dn m_tape m_letter m_letterAt m_told tp mat stm m_kept him ki crs m_price m_offer m_gets m_yes m_buys m_ends m_carried m_row rm m_keptRow m_likeGets m_likePrice m_ahead]) hP hD hS hA [11] (by decide) rfl
                    have hPc := hpd9.1
                    have hDc := hpd9.2.1
                    have hFc := hpd9.2.2
                    clear hpd9
                    refine va_calli (va_runV (As := [Value.int (nI sn)]) (rest := [Value.ref g0, Value.int (nI (WX W0 (zY (PO n K F W0 S5) sn) x.testBit sn (n - 1 - sn))), Value.int (nI (S5 1))]) ⟨hx, hb, hml, hown, hts⟩ (c_X12_leftFrom l dC dI aC H.size g0 m_refused m_kind m_figure m_weight m_got m_setting m_tape m_letter m_letterAt m_told m_kept m_price m_offer m_gets m_yes m_buys m_ends m_carried m_row m_keptRow m_likeGets m_likePrice m_ahead (nI sn) dn tp mat stm him ki crs rm n sn (by omega)) ⟨(callB_of 1 hts (gG kw_922) rfl rfl rfl (hts _ (gw kw_13 rfl)) (hts _ (gw kw_919 rfl)) hd_X12_leftFrom ⟨Nat.le_of_ble_eq_true rfl, Nat.le_of_ble_eq_true rfl⟩), (hts _ (gw kw_921 rfl)), (hts _ (gw ks_50 rfl))⟩ ⟨fb_std, va_recv (q := (RX12, TX12, 33)) hK hPc (ci := 12) (q0 := 0) rfl rfl, pre_std hPc hK hDc hN⟩ rfl rfl hl.1 rfl (lv_room (Nat.le_of_ble_eq_true rfl)) dX12_shaken_139 ⟨Nat.le_of_ble_eq_true rfl, Nat.le_of_ble_eq_true rfl⟩) hS (fun q _ h => hFc q h) hFc (fun x_37 u9 t9 H1 locs ht hvm hw_37 hB hz1 hk1 hS => ?_)
                    obtain ⟨hP1, hK1, hD1⟩ := hB
                    rw [ht] at hP1
                    clear hK1
                    try dsimp only at hw_37
                    have hpd9 : PDx (dC, dI) classes A H1 [cI aC m_refused 7 mr, cI aC m_kind 9 kf, cI aC m_figure 9 ff, cI aC m_setting 5 stf, cI aC m_price 81 u_6, cI aC m_offer 81 u_7, cI aC m_gets 90 u_8, cI aC m_yes 9 u_9, cI aC m_buys 9 u_10, cI aC m_ends 9 u_11, cI aC m_carried 9 u_12, cI aC m_weight 9 wf, oX12 g0 m_refused m_kind m_figure m_weight m_got m_setting (nI n) (nI sn) dn m_tape m_letter m_letterAt m_told tp mat stm m_kept him ki crs m_price m_offer m_gets m_yes m_buys m_ends m_carried m_row rm m_keptRow m_likeGets m_likePrice m_ahead] := jn_N (wr := [cI aC m_refused 7 mr, cI aC m_kind 9 kf, cI aC m_figure 9 ff, cI aC m_setting 5 stf, cI aC m_price 81 u_6, cI aC m_offer 81 u_7, cI aC m_gets 90 u_8, cI aC m_yes 9 u_9, cI aC m_buys 9 u_10, cI aC m_ends 9 u_11, cI aC m_carried 9 u_12, cI aC m_weight 9 wf]) hFc hk1 hP1 hD1 hP hD [11] [0, 1, 2, 3, 4, 5, 6, 7, 8, 9, 10, 12] rfl rfl (by decide) (by decide)
                    have hP := hpd9.1
                    have hD := hpd9.2
                    clear hpd9
                    generalize H1 = H at hP hS ⊢
                    clear hPc hDc hFc hz1 hk1 hP1 hD1 ht hvm
                    have hwl := hw_37
                    have hpd9 := pdf_N (cx := [oX12 g0 m_refused m_kind m_figure m_weight m_got m_setting (nI n) (nI sn) dn m_tape m_letter m_letterAt m_told tp mat stm m_kept him ki crs m_price m_offer m_gets m_yes m_buys m_ends m_carried m_row rm m_keptRow m_likeGets m_likePrice m_ahead, cI aC m_weight 9 wf]) hP hD hS hA [12, 11] (by decide) rfl
                    have hPc := hpd9.1
                    have hDc := hpd9.2.1
                    have hFc := hpd9.2.2
                    clear hpd9
                    refine va_calli (va_runV (As := [Value.int x_37]) (rest := [Value.int (nI (WX W0 (zY (PO n K F W0 S5) sn) x.testBit sn (n - 1 - sn))), Value.int (nI (S5 1))]) ⟨hx, hb, hml, hown, hts⟩ (c_X12_weightOf l dC dI aC H.size g0 m_refused m_kind m_figure m_weight m_got m_setting m_tape m_letter m_letterAt m_told m_kept m_price m_offer m_gets m_yes m_buys m_ends m_carried m_row m_keptRow m_likeGets m_likePrice m_ahead (nI sn) dn tp mat stm him ki crs rm n wf W0 x_37 (HW_of hev.1)) ⟨(callB_of 1 hts (gG kw_930) rfl rfl rfl (hts _ (gw kw_13 rfl)) (hts _ (gw kw_927 rfl)) hd_X12_weightOf ⟨Nat.le_of_ble_eq_true rfl, Nat.le_of_ble_eq_true rfl⟩), (hts _ (gw kw_929 rfl)), (hts _ (gw ks_52 rfl))⟩ ⟨fb_std, va_recv (q := (RX12, TX12, 33)) hK hPc (ci := 12) (q0 := 0) rfl rfl, pre_std hPc hK hDc hN⟩ rfl rfl hl.1 rfl (lv_room (Nat.le_of_ble_eq_true rfl)) dX12_shaken_142 ⟨Nat.le_of_ble_eq_true rfl, Nat.le_of_ble_eq_true rfl⟩) hS (fun q _ h => hFc q h) hFc (fun x_38 u9 t9 H1 locs ht hvm hw_38 hB hz1 hk1 hS => ?_)
                    obtain ⟨hP1, hK1, hD1⟩ := hB
                    rw [ht] at hP1
                    clear hK1
                    try dsimp only at hw_38
                    have hpd9 : PDx (dC, dI) classes A H1 [cI aC m_refused 7 mr, cI aC m_kind 9 kf, cI aC m_figure 9 ff, cI aC m_setting 5 stf, cI aC m_price 81 u_6, cI aC m_offer 81 u_7, cI aC m_gets 90 u_8, cI aC m_yes 9 u_9, cI aC m_buys 9 u_10, cI aC m_ends 9 u_11, cI aC m_carried 9 u_12, oX12 g0 m_refused m_kind m_figure m_weight m_got m_setting (nI n) (nI sn) dn m_tape m_letter m_letterAt m_told tp mat stm m_kept him ki crs m_price m_offer m_gets m_yes m_buys m_ends m_carried m_row rm m_keptRow m_likeGets m_likePrice m_ahead, cI aC m_weight 9 wf] := jn_N (wr := [cI aC m_refused 7 mr, cI aC m_kind 9 kf, cI aC m_figure 9 ff, cI aC m_setting 5 stf, cI aC m_price 81 u_6, cI aC m_offer 81 u_7, cI aC m_gets 90 u_8, cI aC m_yes 9 u_9, cI aC m_buys 9 u_10, cI aC m_ends 9 u_11, cI aC m_carried 9 u_12]) hFc hk1 hP1 hD1 hP hD [12, 11] [0, 1, 2, 3, 4, 5, 6, 7, 8, 9, 10] rfl rfl (by decide) (by decide)
                    have hP := hpd9.1
                    have hD := hpd9.2
                    clear hpd9
                    generalize H1 = H at hP hS ⊢
                    clear hPc hDc hFc hz1 hk1 hP1 hD1 ht hvm
                    have h9 : x_38 = nI (sumr W0 sn (n - sn)) := by rw [hw_38, yw_left (by omega) hn8 hwl]
                    subst h9
                    have hpd9 := pdf_N (cx := []) hP hD hS hA [] (by decide) rfl
                    have hPc := hpd9.1
                    have hDc := hpd9.2.1
                    have hFc := hpd9.2.2
                    clear hpd9
                    refine va_calli (va_runS (As := [Value.int (nI (S5 1)), Value.int (nI (WX W0 (zY (PO n K F W0 S5) sn) x.testBit sn (n - 1 - sn))), Value.int (nI (sumr W0 sn (n - sn)))]) (rest := []) ⟨hx, hb, hml, hown, hts⟩ (c_X12_isCarried l dC dI aC H.size (nI (S5 1)) (WX W0 (zY (PO n K F W0 S5) sn) x.testBit sn (n - 1 - sn)) (sumr W0 sn (n - sn)) (by omega) (by omega)) ⟨(callB_of 3 hts (gG kw_933) rfl rfl rfl (hts _ (gw kw_13 rfl)) (hts _ (gw kw_931 rfl)) hd_X12_isCarried ⟨Nat.le_of_ble_eq_true rfl, Nat.le_of_ble_eq_true rfl⟩), (hts _ (gw kw_932 rfl))⟩ ⟨fb_std, pre_std hPc hK hDc hN⟩ rfl rfl hl.1 rfl (lv_room (Nat.le_of_ble_eq_true rfl)) dX12_shaken_145 ⟨Nat.le_of_ble_eq_true rfl, Nat.le_of_ble_eq_true rfl⟩) hS (fun q _ h => hFc q h) hFc (fun x_39 u9 t9 H1 locs ht hvm hw_39 hB hz1 hk1 hS => ?_)
                    obtain ⟨hP1, hK1, hD1⟩ := hB
                    rw [ht] at hP1
                    clear hK1
                    try dsimp only at hw_39
                    have hpd9 : PDx (dC, dI) classes A H1 [cI aC m_refused 7 mr, cI aC m_kind 9 kf, cI aC m_figure 9 ff, cI aC m_setting 5 stf, cI aC m_price 81 u_6, cI aC m_offer 81 u_7, cI aC m_gets 90 u_8, cI aC m_yes 9 u_9, cI aC m_buys 9 u_10, cI aC m_ends 9 u_11, cI aC m_carried 9 u_12, oX12 g0 m_refused m_kind m_figure m_weight m_got m_setting (nI n) (nI sn) dn m_tape m_letter m_letterAt m_told tp mat stm m_kept him ki crs m_price m_offer m_gets m_yes m_buys m_ends m_carried m_row rm m_keptRow m_likeGets m_likePrice m_ahead, cI aC m_weight 9 wf] := jn_N (wr := [cI aC m_refused 7 mr, cI aC m_kind 9 kf, cI aC m_figure 9 ff, cI aC m_setting 5 stf, cI aC m_price 81 u_6, cI aC m_offer 81 u_7, cI aC m_gets 90 u_8, cI aC m_yes 9 u_9, cI aC m_buys 9 u_10, cI aC m_ends 9 u_11, cI aC m_carried 9 u_12, oX12 g0 m_refused m_kind m_figure m_weight m_got m_setting (nI n) (nI sn) dn m_tape m_letter m_letterAt m_told tp mat stm m_kept him ki crs m_price m_offer m_gets m_yes m_buys m_ends m_carried m_row rm m_keptRow m_likeGets m_likePrice m_ahead, cI aC m_weight 9 wf]) hFc hk1 hP1 hD1 hP hD [] [0, 1, 2, 3, 4, 5, 6, 7, 8, 9, 10, 11, 12] rfl rfl (by decide) (by decide)
                    have hP := hpd9.1
                    have hD := hpd9.2
                    clear hpd9
                    generalize H1 = H at hP hS ⊢
                    clear hPc hDc hFc hz1 hk1 hP1 hD1 ht hvm
                    have hz_145 := hw_39
                    refine lv_if_ne (tgt := 154) hx hb dX12_shaken_148 (by decide) (fun c_40 => ?_) (fun c_40 => ?_)
                    · have hcar : nd (nI (S5 1)) (sumr W0 sn (n - sn)) ≤ (WX W0 (zY (PO n K F W0 S5) sn) x.testBit sn (n - 1 - sn)) := by
                        by_cases q : nd (nI (S5 1)) (sumr W0 sn (n - sn)) ≤ (WX W0 (zY (PO n K F W0 S5) sn) x.testBit sn (n - 1 - sn))
                        · exact q
                        · exact absurd (by rw [hz_145, if_neg q]) c_40
                      refine lv_lconst (v := 1) hx hb dX12_shaken_154 (by decide) ?_
                      refine lv_topl (fun x_41 e_41 => ?_)
                      have h9 : x_41 = lI (PI_ x.testBit (S5 4) sn (sn + 1 - (sn + 1))) := by rw [e_41, Nat.sub_self]; rfl
                      subst h9
                      refine lv_lstore (lv' := [(8, Value.long (lI (PI_ x.testBit (S5 4) sn (sn + 1 - (sn + 1))))), (0, Value.ref g0), (1, Value.int a1), (2, Value.int x_16), (3, Value.long (lI u)), (5, Value.long (lI dw)), (7, Value.int (nI x))]) hx hb dX12_shaken_155 hl (by decide) rfl (fun ls hl => ?_)
                      refine lv_aload_n hx hb dX12_shaken_157 rfl (lv_at hl 1 rfl) ?_
                      refine va_get (D := (dC, dI)) (ci := 12) (v := Value.int (nI sn)) (C := RX12) (T := TX12) (N := 33) hx hb hts inX12 hown hK hP 11 rfl rfl 7 (by decide) (hts _ (gw kw_724 rfl)) (fun _ h9 => h9) rfl dX12_shaken_158 ?_
                      refine lv_iconst (v := 1) hx hb dX12_shaken_161 (by decide) ?_
                      refine lv_iadd hx hb dX12_shaken_162 ?_
                      refine lv_topi (fun x_42 e_42 => ?_)
                      refine lv_istore (lv' := [(10, Value.int x_42), (8, Value.long (lI (PI_ x.testBit (S5 4) sn (sn + 1 - (sn + 1))))), (0, Value.ref g0), (1, Value.int a1), (2, Value.int x_16), (3, Value.long (lI u)), (5, Value.long (lI dw)), (7, Value.int (nI x))]) hx hb dX12_shaken_163 hl (by decide) rfl (fun ls hl => ?_)
                      have h9 : x_42 = nI (sn + 1) := by rw [e_42, nI_1]
                      subst h9
                      have lp_165 : ∀ (fu : Nat) (j9 : Nat) (hfu : n - j9 < fu) (hj9 : sn < j9 ∧ j9 ≤ n) (H : Heap) (locs : List Loc) (ls : Array Slot), va_P (dC, dI) classes [cI aC m_refused 7 mr, cI aC m_kind 9 kf, cI aC m_figure 9 ff, cI aC m_setting 5 stf, cI aC m_price 81 u_6, cI aC m_offer 81 u_7, cI aC m_gets 90 u_8, cI aC m_yes 9 u_9, cI aC m_buys 9 u_10, cI aC m_ends 9 u_11, cI aC m_carried 9 u_12, oX12 g0 m_refused m_kind m_figure m_weight m_got m_setting (nI n) (nI sn) dn m_tape m_letter m_letterAt m_told tp mat stm m_kept him ki crs m_price m_offer m_gets m_yes m_buys m_ends m_carried m_row rm m_keptRow m_likeGets m_likePrice m_ahead, cI aC m_weight 9 wf] H → va_D A [cI aC m_refused 7 mr, cI aC m_kind 9 kf, cI aC m_figure 9 ff, cI aC m_setting 5 stf, cI aC m_price 81 u_6, cI aC m_offer 81 u_7, cI aC m_gets 90 u_8, cI aC m_yes 9 u_9, cI aC m_buys 9 u_10, cI aC m_ends 9 u_11, cI aC m_carried 9 u_12, oX12 g0 m_refused m_kind m_figure m_weight m_got m_setting (nI n) (nI sn) dn m_tape m_letter m_letterAt m_told tp mat stm m_kept him ki crs m_price m_offer m_gets m_yes m_buys m_ends m_carried m_row rm m_keptRow m_likeGets m_likePrice m_ahead, cI aC m_weight 9 wf] → va_S A s.heap H locs → lv_has ls 11 [(0, Value.ref g0), (1, Value.int a1), (2, Value.int x_16), (3, Value.long (lI u)), (5, Value.long (lI dw)), (7, Value.int (nI x)), (8, Value.long (lI (PI_ x.testBit (S5 4) sn (j9 - (sn + 1))))), (10, Value.int (nI j9))] → W p l e (headSpec (wW yX12_shaken cX12_shaken 11 (some .long)) ({ frames := 5, cells := 0, slots := 0, locals := 115 } : Room)).room s m ([Value.ref g0, Value.int a1] : List Value).toArray below meth c H locs 0 0 (MQ below (va_Ql (fun (r : Int64) (u : (Nat → Int32) × (Nat → Int32) × (Nat → Int32) × (Nat → Int32) × (Nat → Int32) × (Nat → Int32) × (Nat → Int32) × (Nat → Int32)) => match u with | (pf2, of2, gf2, yf2, bf2, ef2, cf2, mr2) => r = rShk n sn dn K F W0 S5 a1) (fun (u : (Nat → Int32) × (Nat → Int32) × (Nat → Int32) × (Nat → Int32) × (Nat → Int32) × (Nat → Int32) × (Nat → Int32) × (Nat → Int32)) (t : State) => match u with | (pf2, of2, gf2, yf2, bf2, ef2, cf2, mr2) => va_P (dC, dI) classes [oX12 g0 m_refused m_kind m_figure m_weight m_got m_setting (nI n) (nI sn) dn m_tape m_letter m_letterAt m_told tp mat stm m_kept him ki crs m_price m_offer m_gets m_yes m_buys m_ends m_carried m_row rm m_keptRow m_likeGets m_likePrice m_ahead, cI aC m_kind 9 kf, cI aC m_figure 9 ff, cI aC m_weight 9 wf, cI aC m_setting 5 stf, cI aC m_price 81 pf2, cI aC m_offer 81 of2, cI aC m_gets 90 gf2, cI aC m_yes 9 yf2, cI aC m_buys 9 bf2, cI aC m_ends 9 ef2, cI aC m_carried 9 cf2, cI aC m_refused 7 mr2] t.heap ∧ va_K (dC, dI) classes (TY aC) t ∧ va_D A [oX12 g0 m_refused m_kind m_figure m_weight m_got m_setting (nI n) (nI sn) dn m_tape m_letter m_letterAt m_told tp mat stm m_kept him ki crs m_price m_offer m_gets m_yes m_buys m_ends m_carried m_row rm m_keptRow m_likeGets m_likePrice m_ahead, cI aC m_kind 9 kf, cI aC m_figure 9 ff, cI aC m_weight 9 wf, cI aC m_setting 5 stf, cI aC m_price 81 pf2, cI aC m_offer 81 of2, cI aC m_gets 90 gf2, cI aC m_yes 9 yf2, cI aC m_buys 9 bf2, cI aC m_ends 9 ef2, cI aC m_carried 9 cf2, cI aC m_refused 7 mr2]) A) ([Value.ref g0, Value.int a1] : List Value).toArray s 0 0 A) (F0 m 165 ls []) := by
                        intro fu
                        induction fu with
                        | zero => intro j9 hfu; exact absurd hfu (Nat.not_lt_zero _)
                        | succ fu ih_165 =>
                          intro j9 hfu hj9 H locs ls hP hD hS hl
                          refine lv_iload hx hb dX12_shaken_165 (lv_at hl 7 rfl) ?_
                          refine lv_aload_n hx hb dX12_shaken_167 rfl (lv_at hl 0 rfl) ?_
                          refine va_get (D := (dC, dI)) (ci := 12) (v := Value.int (nI n)) (C := RX12) (T := TX12) (N := 33) hx hb hts inX12 hown hK hP 11 rfl rfl 6 (by decide) (hts _ (gw kw_723 rfl)) (fun _ h9 => h9) rfl dX12_shaken_168 ?_
                          refine lv_icmp_ge (tgt := 216) hx hb dX12_shaken_171 (by decide) (fun c_43 => ?_) (fun c_43 => ?_)
                          · have hjn9 : j9 = n := by
                              rcases Nat.lt_or_ge j9 n with q | q
                              · exact absurd c_43 (nI_ge q (by omega))
                              · omega
                            have hpi : lI (PI_ x.testBit (S5 4) sn (j9 - (sn + 1))) = lI (PI_ x.testBit (S5 4) sn (n - 1 - sn)) := by rw [hjn9, show n - (sn + 1) = n - 1 - sn by omega]
                            have hv7 : PI_ x.testBit (S5 4) sn (n - 1 - sn) ≤ 100000000000000 := Nat.le_trans (PI_le (by omega) _) (Nat.le_trans (Nat.pow_le_pow_right (n := 100) (by omega) (show n - 1 - sn ≤ 7 by omega)) (by decide +kernel))
                            have hl : lv_has ls 11 [(0, Value.ref g0), (1, Value.int a1), (2, Value.int x_16), (3, Value.long (lI u)), (5, Value.long (lI dw)), (7, Value.int (nI x)), (8, Value.long (lI (PI_ x.testBit (S5 4) sn (n - 1 - sn)))), (10, Value.int (nI j9))] := by rw [← hpi]; exact hl
                            refine lv_lload_n hx hb dX12_shaken_216 rfl (lv_at hl 3 rfl) ?_
                            refine lv_lload hx hb dX12_shaken_217 (lv_at hl 6 rfl) ?_
                            refine lv_ladd hx hb dX12_shaken_219 ?_
                            refine lv_topl (fun x_44 e_44 => ?_)
                            have h9 : x_44 = lI (u + PI_ x.testBit (S5 4) sn (n - 1 - sn)) := by rw [e_44, lI_add]
                            subst h9
                            refine lv_lstore_n (lv' := [(3, Value.long (lI (u + PI_ x.testBit (S5 4) sn (n - 1 - sn)))), (0, Value.ref g0), (1, Value.int a1), (2, Value.int x_16), (5, Value.long (lI dw)), (7, Value.int (nI x)), (8, Value.long (lI (PI_ x.testBit (S5 4) sn (n - 1 - sn)))), (10, Value.int (nI j9))]) hx hb dX12_shaken_220 rfl hl (by decide) rfl (fun ls hl => ?_)
                            have hfs : (FSH n W0 (nI (S5 1)) (zY (PO n K F W0 S5) sn) (S5 4) sn) x = PI_ x.testBit (S5 4) sn (n - 1 - sn) := by unfold FSH; rw [if_pos ⟨(bnd_mod hlx).mp hB, hcar⟩]
                            have hus2 : u + PI_ x.testBit (S5 4) sn (n - 1 - sn) = sumr (FSH n W0 (nI (S5 1)) (zY (PO n K F W0 S5) sn) (S5 4) sn) 0 (x + 1) := by show _ = sumr (FSH n W0 (nI (S5 1)) (zY (PO n K F W0 S5) sn) (S5 4) sn) 0 x + (FSH n W0 (nI (S5 1)) (zY (PO n K F W0 S5) sn) (S5 4) sn) (0 + x); rw [Nat.zero_add, hfs, ← hus]
                            obtain ⟨x_45, e_45⟩ : ∃ y : Int32, y = (nI x) + 1 := ⟨_, rfl⟩
                            refine lv_iinc (v := x_45) (lv' := [(7, Value.int x_45), (3, Value.long (lI (u + PI_ x.testBit (S5 4) sn (n - 1 - sn)))), (0, Value.ref g0), (1, Value.int a1), (2, Value.int x_16), (5, Value.long (lI dw)), (8, Value.long (lI (PI_ x.testBit (S5 4) sn (n - 1 - sn)))), (10, Value.int (nI j9))]) hx hb dX12_shaken_221 hl (k := 5) rfl (by rw [e_45]; rfl) (by decide) rfl (fun ls hl => ?_)
                            have h9 : x_45 = nI (x + 1) := by rw [e_45, nI_1]
                            subst h9
                            refine lv_goto (tgt := 91) hx hb dX12_shaken_224 (by decide) ?_
                            exact ih_91 (x + 1) (u + PI_ x.testBit (S5 4) sn (n - 1 - sn)) (by omega) (by omega) (by first | exact Nat.le_trans hu (Nat.mul_le_mul_right _ (Nat.le_succ x)) | (rw [Nat.succ_mul]; exact Nat.add_le_add hu hv7)) (hus2) _ _ _ (hP.sub [0, 1, 2, 12, 3, 4, 5, 6, 7, 8, 9, 10, 11] rfl) (hD.sub [0, 1, 2, 12, 3, 4, 5, 6, 7, 8, 9, 10, 11] (by decide) rfl) hS (lv_sub hl [2, 3, 4, 1, 5, 0] rfl)
                          · have hl9 : j9 < n := by
                              rcases Nat.lt_or_ge j9 n with q | q
                              · exact q
                              · exact absurd (nI_le q (by omega)) c_43
                            refine lv_lload hx hb dX12_shaken_174 (lv_at hl 6 rfl) ?_
                            refine lv_iload hx hb dX12_shaken_176 (lv_at hl 5 rfl) ?_
                            refine lv_iload hx hb dX12_shaken_178 (lv_at hl 7 rfl) ?_
                            refine lv_ishr hx hb dX12_shaken_180 ?_
                            refine lv_topi (fun x_46 e_46 => ?_)
                            refine lv_iconst (v := 1) hx hb dX12_shaken_181 (by decide) ?_
                            refine lv_iand hx hb dX12_shaken_182 ?_
                            refine lv_topi (fun x_47 e_47 => ?_)
                            refine lv_iconst (v := 1) hx hb dX12_shaken_183 (by decide) ?_
                            refine lv_icmp_ne (tgt := 197) hx hb dX12_shaken_184 (by decide) (fun c_48 => ?_) (fun c_48 => ?_)
                            · refine lv_bipush (v := 100) hx hb dX12_shaken_197 (by decide) ?_
                              refine lv_aload_n hx hb dX12_shaken_199 rfl (lv_at hl 0 rfl) ?_
                              refine va_get (D := (dC, dI)) (ci := 12) (v := Value.ref m_setting) (C := RX12) (T := TX12) (N := 33) hx hb hts inX12 hown hK hP 11 rfl rfl 5 (by decide) (hts _ (gw kw_722 rfl)) (fun _ h9 => h9) rfl dX12_shaken_200 ?_
                              refine lv_iconst (v := 4) hx hb dX12_shaken_203 (by decide) ?_
                              have h_49 : vp_in 4 5 := by unfold vp_in; decide
                              refine va_iald hx hb hK hP 3 0 rfl rfl h_49 dX12_shaken_204 ?_
                              refine lv_topi (fun x_50 e_50 => ?_)
                              refine lv_isub hx hb dX12_shaken_205 ?_
                              refine lv_topi (fun x_51 e_51 => ?_)
                              refine lv_i2l hx hb dX12_shaken_206 rfl ?_
                              refine lv_topl (fun x_52 e_52 => ?_)
                              have hxb : ¬ x.testBit j9 = true := fun q => c_48 (by
                                rw [e_47, e_46]
                                refine (b_tst (by omega)).mpr ?_
                                rw [b_get (b := x) (by omega) (show j9 < 31 by omega)]
                                exact q)
                              have h9 : x_52 = lI (if x.testBit j9 = true then S5 4 else 100 - S5 4) := by rw [e_52, e_51, e_50, show stf ((4 : Int32)).toNatClampNeg = nI (S5 4) from hev.2.1 4 (by omega), show (100 : Int32) = nI 100 from rfl, pk_sub (by omega), if_neg hxb]; exact lI_i (by omega)
                              subst h9
                              refine lv_lmul hx hb dX12_shaken_207 ?_
                              refine lv_topl (fun x_53 e_53 => ?_)
                              have h9 : x_53 = lI (PI_ x.testBit (S5 4) sn (j9 + 1 - (sn + 1))) := by rw [e_53, lI_mul, show j9 + 1 - (sn + 1) = (j9 - (sn + 1)) + 1 by omega]; show _ = lI (PI_ x.testBit (S5 4) sn (j9 - (sn + 1)) * (if x.testBit (sn + 1 + (j9 - (sn + 1))) = true then S5 4 else 100 - S5 4)); rw [show sn + 1 + (j9 - (sn + 1)) = j9 by omega]
                              subst h9
                              refine lv_lstore (lv' := [(8, Value.long (lI (PI_ x.testBit (S5 4) sn (j9 + 1 - (sn + 1))))), (0, Value.ref g0), (1, Value.int a1), (2, Value.int x_16), (3, Value.long (lI u)), (5, Value.long (lI dw)), (7, Value.int (nI x)), (10, Value.int (nI j9))]) hx hb dX12_shaken_208 hl (by decide) rfl (fun ls hl => ?_)
                              obtain ⟨x_54, e_54⟩ : ∃ y : Int32, y = (nI j9) + 1 := ⟨_, rfl⟩
                              refine lv_iinc (v := x_54) (lv' := [(10, Value.int x_54), (8, Value.long (lI (PI_ x.testBit (S5 4) sn (j9 + 1 - (sn + 1))))), (0, Value.ref g0), (1, Value.int a1), (2, Value.int x_16), (3, Value.long (lI u)), (5, Value.long (lI dw)), (7, Value.int (nI x))]) hx hb dX12_shaken_210 hl (k := 7) rfl (by rw [e_54]; rfl) (by decide) rfl (fun ls hl => ?_)
                              have h9 : x_54 = nI (j9 + 1) := by rw [e_54, nI_1]
                              subst h9
                              refine lv_goto (tgt := 165) hx hb dX12_shaken_213 (by decide) ?_
                              exact ih_165 (j9 + 1) (by omega) (by omega) _ _ _ (hP.sub [0, 1, 2, 3, 4, 5, 6, 7, 8, 9, 10, 11, 12] rfl) (hD.sub [0, 1, 2, 3, 4, 5, 6, 7, 8, 9, 10, 11, 12] (by decide) rfl) hS (lv_sub hl [2, 3, 4, 5, 6, 7, 1, 0] rfl)
                            · refine lv_aload_n hx hb dX12_shaken_187 rfl (lv_at hl 0 rfl) ?_
                              refine va_get (D := (dC, dI)) (ci := 12) (v := Value.ref m_setting) (C := RX12) (T := TX12) (N := 33) hx hb hts inX12 hown hK hP 11 rfl rfl 5 (by decide) (hts _ (gw kw_722 rfl)) (fun _ h9 => h9) rfl dX12_shaken_188 ?_
                              refine lv_iconst (v := 4) hx hb dX12_shaken_191 (by decide) ?_
                              have h_55 : vp_in 4 5 := by unfold vp_in; decide
                              refine va_iald hx hb hK hP 3 0 rfl rfl h_55 dX12_shaken_192 ?_
                              refine lv_topi (fun x_56 e_56 => ?_)
                              refine lv_i2l hx hb dX12_shaken_193 rfl ?_
                              refine lv_topl (fun x_57 e_57 => ?_)
                              refine lv_goto (tgt := 207) hx hb dX12_shaken_194 (by decide) ?_
                              have hxb : x.testBit j9 = true := by
                                rw [← b_get (b := x) (by omega) (show j9 < 31 by omega)]
                                exact (b_tst (by omega)).mp (by rw [← e_46, ← e_47]; exact c_48)
                              have h9 : x_57 = lI (if x.testBit j9 = true then S5 4 else 100 - S5 4) := by rw [e_57, e_56, show stf ((4 : Int32)).toNatClampNeg = nI (S5 4) from hev.2.1 4 (by omega), if_pos hxb]; exact lI_i (by omega)
                              subst h9
                              refine lv_lmul hx hb dX12_shaken_207 ?_
                              refine lv_topl (fun x_58 e_58 => ?_)
                              have h9 : x_58 = lI (PI_ x.testBit (S5 4) sn (j9 + 1 - (sn + 1))) := by rw [e_58, lI_mul, show j9 + 1 - (sn + 1) = (j9 - (sn + 1)) + 1 by omega]; show _ = lI (PI_ x.testBit (S5 4) sn (j9 - (sn + 1)) * (if x.testBit (sn + 1 + (j9 - (sn + 1))) = true then S5 4 else 100 - S5 4)); rw [show sn + 1 + (j9 - (sn + 1)) = j9 by omega]
                              subst h9
                              refine lv_lstore (lv' := [(8, Value.long (lI (PI_ x.testBit (S5 4) sn (j9 + 1 - (sn + 1))))), (0, Value.ref g0), (1, Value.int a1), (2, Value.int x_16), (3, Value.long (lI u)), (5, Value.long (lI dw)), (7, Value.int (nI x)), (10, Value.int (nI j9))]) hx hb dX12_shaken_208 hl (by decide) rfl (fun ls hl => ?_)
                              obtain ⟨x_59, e_59⟩ : ∃ y : Int32, y = (nI j9) + 1 := ⟨_, rfl⟩
                              refine lv_iinc (v := x_59) (lv' := [(10, Value.int x_59), (8, Value.long (lI (PI_ x.testBit (S5 4) sn (j9 + 1 - (sn + 1))))), (0, Value.ref g0), (1, Value.int a1), (2, Value.int x_16), (3, Value.long (lI u)), (5, Value.long (lI dw)), (7, Value.int (nI x))]) hx hb dX12_shaken_210 hl (k := 7) rfl (by rw [e_59]; rfl) (by decide) rfl (fun ls hl => ?_)
                              have h9 : x_59 = nI (j9 + 1) := by rw [e_59, nI_1]
                              subst h9
                              refine lv_goto (tgt := 165) hx hb dX12_shaken_213 (by decide) ?_
                              exact ih_165 (j9 + 1) (by omega) (by omega) _ _ _ (hP.sub [0, 1, 2, 3, 4, 5, 6, 7, 8, 9, 10, 11, 12] rfl) (hD.sub [0, 1, 2, 3, 4, 5, 6, 7, 8, 9, 10, 11, 12] (by decide) rfl) hS (lv_sub hl [2, 3, 4, 5, 6, 7, 1, 0] rfl)
                      exact lp_165 ((n - (sn + 1)) + 1) (sn + 1) (Nat.lt_succ_self _) (by omega) _ _ _ (hP.sub [0, 1, 2, 3, 4, 5, 6, 7, 8, 9, 10, 11, 12] rfl) (hD.sub [0, 1, 2, 3, 4, 5, 6, 7, 8, 9, 10, 11, 12] (by decide) rfl) hS (lv_sub hl [2, 3, 4, 5, 6, 7, 1, 0] rfl)
                    · refine lv_goto (tgt := 221) hx hb dX12_shaken_151 (by decide) ?_
                      have hfs : (FSH n W0 (nI (S5 1)) (zY (PO n K F W0 S5) sn) (S5 4) sn) x = 0 := by unfold FSH; rw [if_neg (fun q => absurd (hz_145.symm.trans c_40) (by rw [if_pos q.2]; decide))]
                      have hus2 : u = sumr (FSH n W0 (nI (S5 1)) (zY (PO n K F W0 S5) sn) (S5 4) sn) 0 (x + 1) := by show _ = sumr (FSH n W0 (nI (S5 1)) (zY (PO n K F W0 S5) sn) (S5 4) sn) 0 x + (FSH n W0 (nI (S5 1)) (zY (PO n K F W0 S5) sn) (S5 4) sn) (0 + x); rw [Nat.zero_add, hfs, Nat.add_zero, ← hus]
                      obtain ⟨x_60, e_60⟩ : ∃ y : Int32, y = (nI x) + 1 := ⟨_, rfl⟩
                      refine lv_iinc (v := x_60) (lv' := [(7, Value.int x_60), (0, Value.ref g0), (1, Value.int a1), (2, Value.int x_16), (3, Value.long (lI u)), (5, Value.long (lI dw))]) hx hb dX12_shaken_221 hl (k := 5) rfl (by rw [e_60]; rfl) (by decide) rfl (fun ls hl => ?_)
                      have h9 : x_60 = nI (x + 1) := by rw [e_60, nI_1]
                      subst h9
                      refine lv_goto (tgt := 91) hx hb dX12_shaken_224 (by decide) ?_
                      exact ih_91 (x + 1) u (by omega) (by omega) (by first | exact Nat.le_trans hu (Nat.mul_le_mul_right _ (Nat.le_succ x)) | (rw [Nat.succ_mul]; exact Nat.add_le_add hu hv7)) (hus2) _ _ _ (hP.sub [0, 1, 2, 12, 3, 4, 5, 6, 7, 8, 9, 10, 11] rfl) (hD.sub [0, 1, 2, 12, 3, 4, 5, 6, 7, 8, 9, 10, 11] (by decide) rfl) hS (lv_sub hl [1, 2, 3, 4, 5, 0] rfl)
            exact lp_91 ((2 ^ n - 0) + 1) 0 0 (Nat.lt_succ_self _) (Nat.zero_le _) (by omega) (rfl) _ _ _ (hP.sub [0, 1, 2, 3, 4, 5, 6, 7, 8, 9, 10, 11, 12] rfl) (hD.sub [0, 1, 2, 3, 4, 5, 6, 7, 8, 9, 10, 11, 12] (by decide) rfl) hS (lv_sub hl [1, 2, 3, 4, 5, 0] rfl)
          · have hlt : j < n := by
              rcases Nat.lt_or_ge j n with q | q
              · exact q
              · exact absurd (nI_le q (by omega)) c_19
            refine lv_lload hx hb dX12_shaken_74 (lv_at hl 4 rfl) ?_
            refine lv_ldc2 hx hb hown (hts _ (gw kw_1083 rfl)) dX12_shaken_76 ?_
            refine lv_lmul hx hb dX12_shaken_79 ?_
            refine lv_topl (fun x_61 e_61 => ?_)
            have h9 : x_61 = lI (100 ^ (j + 1 - (sn + 1))) := by rw [e_61, show (100 : Int64) = lI 100 from rfl, lI_mul]; congr 1; rw [show j + 1 - (sn + 1) = (j - (sn + 1)) + 1 by omega, Nat.pow_succ]
            subst h9
            refine lv_lstore (lv' := [(5, Value.long (lI (100 ^ (j + 1 - (sn + 1))))), (0, Value.ref g0), (1, Value.int a1), (2, Value.int x_16), (3, Value.long 0), (7, Value.int (nI j))]) hx hb dX12_shaken_80 hl (by decide) rfl (fun ls hl => ?_)
            obtain ⟨x_62, e_62⟩ : ∃ y : Int32, y = (nI j) + 1 := ⟨_, rfl⟩
            refine lv_iinc (v := x_62) (lv' := [(7, Value.int x_62), (5, Value.long (lI (100 ^ (j + 1 - (sn + 1))))), (0, Value.ref g0), (1, Value.int a1), (2, Value.int x_16), (3, Value.long 0)]) hx hb dX12_shaken_82 hl (k := 5) rfl (by rw [e_62]; rfl) (by decide) rfl (fun ls hl => ?_)
            have h9 : x_62 = nI (j + 1) := by rw [e_62, nI_1]
            subst h9
            refine lv_goto (tgt := 65) hx hb dX12_shaken_85 (by decide) ?_
            exact ih_65 (j + 1) (ms_lt hlt hfu) (by omega) _ _ _ (hP.sub [0, 1, 2, 3, 4, 5, 6, 7, 8, 9, 10, 11, 12] rfl) (hD.sub [0, 1, 2, 3, 4, 5, 6, 7, 8, 9, 10, 11, 12] (by decide) rfl) hS (lv_sub hl [2, 3, 4, 5, 1, 0] rfl)
      exact lp_65 ((n - (sn + 1)) + 1) (sn + 1) (Nat.lt_succ_self _) (by omega) _ _ _ (hP.sub [0, 1, 2, 3, 4, 5, 6, 7, 8, 9, 10, 11, 12] rfl) (hD.sub [0, 1, 2, 3, 4, 5, 6, 7, 8, 9, 10, 11, 12] (by decide) rfl) hS (lv_sub hl [4, 5, 3, 2, 1, 0] rfl)
    · refine lv_aload_n hx hb dX12_shaken_23 rfl (lv_at hl 0 rfl) ?_
      refine lv_bipush (v := -3) hx hb dX12_shaken_24 (by decide) ?_
      have hpd9 := pdf_N (cx := [oX12 g0 m_refused m_kind m_figure m_weight m_got m_setting (nI n) (nI sn) dn m_tape m_letter m_letterAt m_told tp mat stm m_kept him ki crs m_price m_offer m_gets m_yes m_buys m_ends m_carried m_row rm m_keptRow m_likeGets m_likePrice m_ahead, cI aC m_refused 7 mr]) hP hD hS hA [12, 11] (by decide) rfl
      have hPc := hpd9.1
      have hDc := hpd9.2.1
      have hFc := hpd9.2.2
      clear hpd9
      refine va_calll (va_runV (As := [Value.int (-3)]) (rest := []) ⟨hx, hb, hml, hown, hts⟩ (c_X12_lowest l dC dI aC H.size g0 m_refused m_kind m_figure m_weight m_got m_setting m_tape m_letter m_letterAt m_told m_kept m_price m_offer m_gets m_yes m_buys m_ends m_carried m_row m_keptRow m_likeGets m_likePrice m_ahead (nI n) (nI sn) dn tp mat stm him ki crs rm (-3) 3 mr (by decide) (by unfold vp_in; decide)) ⟨(callB_of 1 hts (gG kw_1081) rfl rfl rfl (hts _ (gw kw_13 rfl)) (hts _ (gw kw_1078 rfl)) hd_X12_lowest ⟨Nat.le_of_ble_eq_true rfl, Nat.le_of_ble_eq_true rfl⟩), (hts _ (gw kw_1080 rfl)), (hts _ (gw ks_68 rfl))⟩ ⟨fb_std, va_recv (q := (RX12, TX12, 33)) hK hPc (ci := 12) (q0 := 0) rfl rfl, pre_std hPc hK hDc hN⟩ rfl rfl hl.1 rfl (lv_room (Nat.le_of_ble_eq_true rfl)) dX12_shaken_26 ⟨Nat.le_of_ble_eq_true rfl, Nat.le_of_ble_eq_true rfl⟩) hS (fun q _ h => hFc q h) hFc (fun x_63 u9 t9 H1 locs ht hvm hw_63 hB hz1 hk1 hS => ?_)
      obtain ⟨u_64, rfl⟩ : ∃ z, z = u9 := ⟨_, rfl⟩
      obtain ⟨hP1, hK1, hD1⟩ := hB
      rw [ht] at hP1
      clear hK1
      try dsimp only at hw_63
      have hpd9 : PDx (dC, dI) classes A H1 [cI aC m_kind 9 kf, cI aC m_figure 9 ff, cI aC m_weight 9 wf, cI aC m_setting 5 stf, cI aC m_price 81 pf, cI aC m_offer 81 of, cI aC m_gets 90 gf, cI aC m_yes 9 yf, cI aC m_buys 9 bf, cI aC m_ends 9 ef, cI aC m_carried 9 cf, oX12 g0 m_refused m_kind m_figure m_weight m_got m_setting (nI n) (nI sn) dn m_tape m_letter m_letterAt m_told tp mat stm m_kept him ki crs m_price m_offer m_gets m_yes m_buys m_ends m_carried m_row rm m_keptRow m_likeGets m_likePrice m_ahead, cI aC m_refused 7 u_64] := jn_N (wr := [cI aC m_kind 9 kf, cI aC m_figure 9 ff, cI aC m_weight 9 wf, cI aC m_setting 5 stf, cI aC m_price 81 pf, cI aC m_offer 81 of, cI aC m_gets 90 gf, cI aC m_yes 9 yf, cI aC m_buys 9 bf, cI aC m_ends 9 ef, cI aC m_carried 9 cf]) hFc hk1 hP1 hD1 hP hD [12, 11] [0, 1, 2, 3, 4, 5, 6, 7, 8, 9, 10] rfl rfl (by decide) (by decide)
      have hP := hpd9.1
      have hD := hpd9.2
      clear hpd9
      generalize H1 = H at hP hS ⊢
      clear hPc hDc hFc hz1 hk1 hP1 hD1 ht hvm
      obtain ⟨hlo3, -⟩ := hw_63
      have hpd9 := pd_N (cx := [oX12 g0 m_refused m_kind m_figure m_weight m_got m_setting (nI n) (nI sn) dn m_tape m_letter m_letterAt m_told tp mat stm m_kept him ki crs m_price m_offer m_gets m_yes m_buys m_ends m_carried m_row rm m_keptRow m_likeGets m_likePrice m_ahead, cI aC m_kind 9 kf, cI aC m_figure 9 ff, cI aC m_weight 9 wf, cI aC m_setting 5 stf, cI aC m_price 81 pf, cI aC m_offer 81 of, cI aC m_gets 90 gf, cI aC m_yes 9 yf, cI aC m_buys 9 bf, cI aC m_ends 9 ef, cI aC m_carried 9 cf, cI aC m_refused 7 u_64]) hP hD [11, 0, 1, 2, 3, 4, 5, 6, 7, 8, 9, 10, 12] (by decide) rfl
      have hP9 := hpd9.1
      have hD9 := hpd9.2
      refine W.widen (k := 0) (n := 0) (by omega) (by omega) ?_
      exact W.lret (v := x_63) hx hb hr (fun t ht hW => ⟨⟨x_63, (pf, of, gf, yf, bf, ef, cf, u_64), rfl, by rw [hlo3]; unfold rShk; rw [if_neg (isq_y hz_3 c_2), if_pos (ovm_y hn8 hz_17 c_4)]; first | done | rfl | decide +kernel, by rw [ht]; exact hP9, va_K.moved hW.alike hK, hD9⟩, hS.F ht⟩) hS.2.2 dX12_shaken_29
  · refine lv_aload_n hx hb dX12_shaken_9 rfl (lv_at hl 0 rfl) ?_
    refine lv_bipush (v := -2) hx hb dX12_shaken_10 (by decide) ?_
    have hpd9 := pdf_N (cx := [oX12 g0 m_refused m_kind m_figure m_weight m_got m_setting (nI n) (nI sn) dn m_tape m_letter m_letterAt m_told tp mat stm m_kept him ki crs m_price m_offer m_gets m_yes m_buys m_ends m_carried m_row rm m_keptRow m_likeGets m_likePrice m_ahead, cI aC m_refused 7 mr]) hP hD hS hA [0, 12] (by decide) rfl
    have hPc := hpd9.1
    have hDc := hpd9.2.1
    have hFc := hpd9.2.2
    clear hpd9
    refine va_calll (va_runV (As := [Value.int (-2)]) (rest := []) ⟨hx, hb, hml, hown, hts⟩ (c_X12_lowest l dC dI aC H.size g0 m_refused m_kind m_figure m_weight m_got m_setting m_tape m_letter m_letterAt m_told m_kept m_price m_offer m_gets m_yes m_buys m_ends m_carried m_row m_keptRow m_likeGets m_likePrice m_ahead (nI n) (nI sn) dn tp mat stm him ki crs rm (-2) 2 mr (by decide) (by unfold vp_in; decide)) ⟨(callB_of 1 hts (gG kw_1081) rfl rfl rfl (hts _ (gw kw_13 rfl)) (hts _ (gw kw_1078 rfl)) hd_X12_lowest ⟨Nat.le_of_ble_eq_true rfl, Nat.le_of_ble_eq_true rfl⟩), (hts _ (gw kw_1080 rfl)), (hts _ (gw ks_68 rfl))⟩ ⟨fb_std, va_recv (q := (RX12, TX12, 33)) hK hPc (ci := 12) (q0 := 0) rfl rfl, pre_std hPc hK hDc hN⟩ rfl rfl hl.1 rfl (lv_room (Nat.le_of_ble_eq_true rfl)) dX12_shaken_12 ⟨Nat.le_of_ble_eq_true rfl, Nat.le_of_ble_eq_true rfl⟩) hS (fun q _ h => hFc q h) hFc (fun x_65 u9 t9 H1 locs ht hvm hw_65 hB hz1 hk1 hS => ?_)
    obtain ⟨u_66, rfl⟩ : ∃ z, z = u9 := ⟨_, rfl⟩
    obtain ⟨hP1, hK1, hD1⟩ := hB
    rw [ht] at hP1
    clear hK1
    try dsimp only at hw_65
    have hpd9 : PDx (dC, dI) classes A H1 [cI aC m_kind 9 kf, cI aC m_figure 9 ff, cI aC m_weight 9 wf, cI aC m_setting 5 stf, cI aC m_price 81 pf, cI aC m_offer 81 of, cI aC m_gets 90 gf, cI aC m_yes 9 yf, cI aC m_buys 9 bf, cI aC m_ends 9 ef, cI aC m_carried 9 cf, oX12 g0 m_refused m_kind m_figure m_weight m_got m_setting (nI n) (nI sn) dn m_tape m_letter m_letterAt m_told tp mat stm m_kept him ki crs m_price m_offer m_gets m_yes m_buys m_ends m_carried m_row rm m_keptRow m_likeGets m_likePrice m_ahead, cI aC m_refused 7 u_66] := jn_N (wr := [cI aC m_kind 9 kf, cI aC m_figure 9 ff, cI aC m_weight 9 wf, cI aC m_setting 5 stf, cI aC m_price 81 pf, cI aC m_offer 81 of, cI aC m_gets 90 gf, cI aC m_yes 9 yf, cI aC m_buys 9 bf, cI aC m_ends 9 ef, cI aC m_carried 9 cf]) hFc hk1 hP1 hD1 hP hD [0, 12] [1, 2, 3, 4, 5, 6, 7, 8, 9, 10, 11] rfl rfl (by decide) (by decide)
    have hP := hpd9.1
    have hD := hpd9.2
    clear hpd9
    generalize H1 = H at hP hS ⊢
    clear hPc hDc hFc hz1 hk1 hP1 hD1 ht hvm
    obtain ⟨hlo2, -⟩ := hw_65
    have hpd9 := pd_N (cx := [oX12 g0 m_refused m_kind m_figure m_weight m_got m_setting (nI n) (nI sn) dn m_tape m_letter m_letterAt m_told tp mat stm m_kept him ki crs m_price m_offer m_gets m_yes m_buys m_ends m_carried m_row rm m_keptRow m_likeGets m_likePrice m_ahead, cI aC m_kind 9 kf, cI aC m_figure 9 ff, cI aC m_weight 9 wf, cI aC m_setting 5 stf, cI aC m_price 81 pf, cI aC m_offer 81 of, cI aC m_gets 90 gf, cI aC m_yes 9 yf, cI aC m_buys 9 bf, cI aC m_ends 9 ef, cI aC m_carried 9 cf, cI aC m_refused 7 u_66]) hP hD [11, 0, 1, 2, 3, 4, 5, 6, 7, 8, 9, 10, 12] (by decide) rfl
    have hP9 := hpd9.1
    have hD9 := hpd9.2
    refine W.widen (k := 0) (n := 0) (by omega) (by omega) ?_
    exact W.lret (v := x_65) hx hb hr (fun t ht hW => ⟨⟨x_65, (pf, of, gf, yf, bf, ef, cf, u_66), rfl, by rw [hlo2]; unfold rShk; rw [if_pos (isq_n hz_3 c_2)]; first | done | rfl | decide +kernel, by rw [ht]; exact hP9, va_K.moved hW.alike hK, hD9⟩, hS.F ht⟩) hS.2.2 dX12_shaken_15
