section
/-! 46.bits -/
theorem ab_p {z : Int} (hz : sm z) (h : 0 ≤ iI z) : iI z = nI z.toNat := by
  rw [← iI_0, iI_le sm0 hz] at h
  rw [nI_iI, Int.toNat_of_nonneg h]
theorem ab_n {z : Int} (hz : sm z) (h : ¬ 0 ≤ iI z) : (0 : Int32) = nI z.toNat := by
  rw [← iI_0, iI_le sm0 hz] at h
  rw [show z.toNat = 0 by omega]
  rfl
/-- what a man is offered at the last level v -/
theorem b_bit {x : Int32} {j : Nat} (hj : j < 32) : (x >>> (nI j &&& 31)) &&& 1 = if bt x j = true then 1 else 0 := by
  by_cases h : bt x j = true
  · rw [if_pos h]; exact (b_tst hj).mpr h
  · rw [if_neg h]
    apply b_ext
    intro i hi
    rw [b_and, b_0]
    by_cases e : i = 0
    · subst e
      rw [b_sshr j hj x (by omega)]
      simp only [Nat.add_zero, if_pos hj, Bool.eq_false_iff.mpr h, Bool.false_and]
    · have h1 : bt 1 i = false := by rw [b_1 hi, decide_eq_false e]
      rw [h1, Bool.and_false]
theorem b_mul {x : Int32} {j w : Nat} (hj : j < 32) : ((x >>> (nI j &&& 31)) &&& 1) * nI w = nI (if bt x j = true then w else 0) := by
  rw [b_bit hj]
  by_cases h : bt x j = true
  · rw [if_pos h, if_pos h]
    exact (pk_mul 1 w).trans (by rw [Nat.one_mul])
  · rw [if_neg h, if_neg h]
    exact (pk_mul 0 w).trans (by rw [Nat.zero_mul])
theorem yw_s0 {W : Nat → Nat} {y : Int32} {j : Nat} : yw W y 0 (j + 1) = yw W y 0 j + (if bt y j = true then W j else 0) := by
  show _ + (if bt y (0 + j) = true then W (0 + j) else 0) = _
  rw [Nat.zero_add]
  rfl
theorem b_xor (x y : Int32) (i : Nat) : bt (x ^^^ y) i = (bt x i ^^ bt y i) := by simp [bt]
theorem b_m1 : ∀ i, i < 32 → bt (-1) i = true := by decide +kernel
theorem b_not {x : Int32} {i : Nat} (hi : i < 32) : bt (x ^^^ (-1)) i = !bt x i := by rw [b_xor, b_m1 i hi]; simp
theorem yng_bits {n i : Nat} {l : Int32} (hi : i < n ∧ n ≤ 8) (hl : ∀ b, b < 32 → bt l b = decide (i ≤ b ∧ b < n)) : ∀ b, b < 32 → bt (l &&& ((1 : Int32) <<< (nI i &&& 31) ^^^ (-1))) b = decide (i < b ∧ b < n) := by
  intro b hb
  rw [b_and, b_not hb, hl b hb, b_one i (by omega) b hb]
  by_cases e : b = i
  · subst e
    rw [decide_eq_true (rfl : b = b), decide_eq_false (by omega : ¬ (b < b ∧ b < n))]
    simp
  · rw [decide_eq_false e, show decide (i ≤ b ∧ b < n) = decide (i < b ∧ b < n) from decide_eq_decide.mpr ⟨fun q => by omega, fun q => by omega⟩]
    simp
theorem p28 {n : Nat} (h : n ≤ 8) : 2 ^ n ≤ 256 := (Nat.pow_le_pow_right (by omega) h : 2 ^ n ≤ 2 ^ 8)
theorem bnd_mask {n i s : Nat} {l : Int32} (hi : i < n ∧ n ≤ 8) (hs : s < 2 ^ n) (hl : ∀ b, b < 32 → bt l b = decide (i < b ∧ b < n)) : nI s &&& (l ^^^ (-1)) = 0 ↔ BND n i s := by
  have h8 := p28 hi.2
  have hsb : ∀ q, q < 31 → bt (nI s) q = s.testBit q := fun q hq => b_get (by omega) hq
  constructor
  · intro h q hq
    have hqn : q < n := by
      rcases Nat.lt_or_ge q n with z | z
      · exact z
      · rw [Nat.testBit_lt_two_pow (Nat.lt_of_lt_of_le hs (Nat.pow_le_pow_right (by omega) z))] at hq
        exact absurd hq Bool.false_ne_true
    have h1 : bt (nI s &&& (l ^^^ (-1))) q = false := by rw [h, b_0]
    rw [b_and, b_not (by omega), hl q (by omega), hsb q (by omega), hq] at h1
    simp at h1
    omega
  · intro h
    apply b_ext
    intro q hq
    rw [b_and, b_0, b_not hq, hl q hq]
    by_cases e : q < 31
    · rw [hsb q e]
      cases h2 : s.testBit q with
      | false => rfl
      | true => rw [decide_eq_true (h q h2)]; rfl
    · have h31 : q = 31 := by omega
      subst h31
      have : bt (nI s) 31 = false := by
        unfold bt nI
        show (BitVec.ofNat 32 s).getLsbD 31 = _
        rw [BitVec.getLsbD_ofNat, Nat.testBit_lt_two_pow (by omega)]
        simp
      rw [this]
      rfl
theorem yw_cstm {Pq : Nat → Nat} {n i s : Nat} (hn : n ≤ 8) (hi : i < n) (hs : s < 2 ^ n) : yw Pq (nI s) (i + 1) (n - 1 - i) = cstm Pq n i s := by
  have h8 := p28 hn
  unfold yw cstm
  refine sumr_congr (fun q h1 h2 => ?_)
  rw [b_get (by omega) (by omega)]
theorem cstm_le {Pq : Nat → Nat} {n i s : Nat} (hn : n ≤ 8) (h : ∀ q, i < q → q < n → Pq q ≤ 110) : cstm Pq n i s ≤ 770 := by
  have := sumr_le (f := fun q => if s.testBit q = true then Pq q else 0) (a := i + 1) (b := 110) (k := n - 1 - i) (fun j h1 h2 => by
    have := h j (by omega) (by omega)
    split <;> omega)
  unfold cstm
  omega
/-- what buysBy answers -/
def BYR (n : Nat) (W : Nat → Nat) (cq : Nat) (law fst : Int32) (i : Nat) (Pq : Nat → Nat) (r : Int32) : Prop :=
  (r = -9 ∧ ∃ rb, BST (ENf n W law fst i Pq) (cst (fun u => Pq (mu fst n i u))) (2 ^ (n - 1 - i)) rb ∧ (rb = -9 ∨ ∃ b, b < 2 ^ (n - 1 - i) ∧ rb = nI b ∧ cq < cst (fun u => Pq (mu fst n i u)) b)) ∨
  ∃ s, s < 2 ^ n ∧ r = nI s ∧ BND n i s ∧ BST (ENf n W law fst i Pq) (cst (fun u => Pq (mu fst n i u))) (2 ^ (n - 1 - i)) (nI (us fst n i s)) ∧ cstm Pq n i s ≤ cq
theorem ub_y {x y : Int32} {i j : Nat} {P : Nat → Nat} (hj : i < j ∧ j < 8) (hx : ∀ b, b < 32 → bt x b = decide (i < b ∧ b < j ∧ P b = 0)) (hy : y = x ||| ((1 : Int32) <<< (nI j &&& 31))) (hP : P j = 0) : ∀ b, b < 32 → bt y b = decide (i < b ∧ b < j + 1 ∧ P b = 0) := by
  intro b hb
  rw [hy, b_or, hx b hb, b_one j hj.2 b hb]
  by_cases e : b = j
  · subst e
    rw [decide_eq_true (p := b = b) rfl, Bool.or_true, decide_eq_true ⟨hj.1, by omega, hP⟩]
  · rw [decide_eq_false (p := b = j) e, Bool.or_false]
    exact decide_eq_decide.mpr ⟨fun q => ⟨q.1, by omega, q.2.2⟩, fun q => ⟨q.1, by omega, q.2.2⟩⟩
theorem ub_n {x y : Int32} {i j : Nat} {P : Nat → Nat} (hx : ∀ b, b < 32 → bt x b = decide (i < b ∧ b < j ∧ P b = 0)) (hy : y = x ||| 0) (hP : ¬ P j = 0) : ∀ b, b < 32 → bt y b = decide (i < b ∧ b < j + 1 ∧ P b = 0) := by
  intro b hb
  rw [hy, b_or, hx b hb, b_0, Bool.or_false]
  refine decide_eq_decide.mpr ⟨fun q => ⟨q.1, by omega, q.2.2⟩, fun q => ⟨q.1, ?_, q.2.2⟩⟩
  rcases Nat.lt_or_ge b j with h | h
  · exact h
  · have e : b = j := by omega
    subst e
    exact absurd q.2.2 hP
theorem wx_bits {n i s : Nat} {u x : Int32} {Pq : Nat → Nat} (hi : i < n ∧ n ≤ 8) (hs : s < 2 ^ n) (hu : ∀ b, b < 32 → bt u b = decide (i < b ∧ b < n ∧ Pq b = 0)) (hx : x = (nI s ||| u) ||| ((1 : Int32) <<< (nI i &&& 31))) : ∀ q, q < n → bt x q = (decide (q = i) || decide (i < q ∧ Pq q = 0) || s.testBit q) := by
  have h8 := p28 hi.2
  intro q hq
  rw [hx, b_or, b_or, b_one i (by omega) q (by omega), hu q (by omega), b_get (by omega) (by omega), show decide (i < q ∧ q < n ∧ Pq q = 0) = decide (i < q ∧ Pq q = 0) from decide_eq_decide.mpr ⟨fun z => ⟨z.1, z.2.2⟩, fun z => ⟨z.1, hq, z.2⟩⟩]
  cases decide (q = i) <;> cases decide (i < q ∧ Pq q = 0) <;> cases s.testBit q <;> rfl
theorem sw_out6 {x : Int32} (h0 : ¬ x = 0) (h1 : ¬ x = 1) (h2 : ¬ x = 2) (h3 : ¬ x = 3) (h4 : ¬ x = 4) (h5 : ¬ x = 5) : x.toInt < 0 ∨ 5 < x.toInt := by
  have e0 := lv_neT h0 (a := 0) rfl
  have e1 := lv_neT h1 (a := 1) rfl
  have e2 := lv_neT h2 (a := 2) rfl
  have e3 := lv_neT h3 (a := 3) rfl
  have e4 := lv_neT h4 (a := 4) rfl
  have e5 := lv_neT h5 (a := 5) rfl
  omega

end

section
/-! 47.ref1 -/
set_option maxHeartbeats 1000000 in
set_option maxRecDepth 100000 in
/-- X12_isCarried -/
theorem c_X12_isCarried (l : Launch) (dC : Nat → ClassId) (dI : Nat → Nat → Nat) (aC : Nat → ClassId) (sz : Nat) (law : Int32) (y : Nat) (a : Nat) (hy : y ≤ 1000) (ha : a ≤ 1000) : Met l yX12_isCarried (wW yX12_isCarried cX12_isCarried 3 (some .boolean)) ({ frames := 0, cells := 0, slots := 0, locals := 0 } : Room) (va_Pc [Value.int law, Value.int (nI y), Value.int (nI a)] (fun U => U.heap.size = sz ∧ va_P (dC, dI) classes [] U.heap ∧ va_K (dC, dI) classes (TY aC) U ∧ va_D (fun _ => True) [] ∧ NX U)) (va_Qi (fun (r : Int32) (_ : Unit) => r = if nd law a ≤ y then 1 else 0) (fun (_ : Unit) (t : State) => va_P (dC, dI) classes [] t.heap ∧ va_K (dC, dI) classes (TY aC) t ∧ va_D (va_A [] sz) []) (va_A [] sz)) 0 0 (va_A [] sz) := by
  refine Met.ofW (cc := cX12_isCarried) (maxL := 3) (ret := (some .boolean)) (by decide) rfl ?_
  intro p e s m args below meth c s₁ B hml hv
  obtain ⟨rfl, hsz, hP, hK, hD0, hN⟩ := hv
  have hx := B.exec
  have hb := B.bytes
  have hr := B.returns
  have hts0 := atoms_spec (ws := (wW yX12_isCarried cX12_isCarried 3 (some .boolean))) B.pre
  have hts : ∀ w9 ∈ lw_G, w9.before ([Value.int law, Value.int (nI y), Value.int (nI a)] : List Value).toArray s = true := fun w9 h9 => hts0 w9 (List.mem_cons_of_mem _ h9)
  have hown : s.vm.findClass RX12 = some m.cls := findClass_of_methodNamed (x := yX12_isCarried) B.named
  have hlocks := B.notSynchronized
  subst hsz
  have hD := hD0.self (sz := s.heap.size)
  generalize hAe : va_A [] s.heap.size = A at hD ⊢
  have hA : ∀ q : Nat, s.heap.size ≤ q → A q := fun q h => by rw [← hAe]; exact Or.inr h
  obtain ⟨H, hHe⟩ : ∃ H : Heap, H = s.heap := ⟨_, rfl⟩
  have hS : va_S A s.heap H [] := by rw [hHe]; exact va_S.rf
  have hP : va_P (dC, dI) classes [] H := by rw [hHe]; exact hP
  have hl := lv_entry ([Value.int law, Value.int (nI y), Value.int (nI a)]) (n := 3) (Nat.le_of_ble_eq_true rfl)
  rw [lg_entry_eq]
  generalize (lg_sl ([Value.int law, Value.int (nI y), Value.int (nI a)]) ++ List.replicate (3 - (lg_sl ([Value.int law, Value.int (nI y), Value.int (nI a)])).length) Slot.unset).toArray = ls at hl ⊢
  have hl : lv_has ls 3 [(0, Value.int law), (1, Value.int (nI y)), (2, Value.int (nI a))] := hl
  rw [← hHe]
  refine lv_iload_n hx hb dX12_isCarried_0 rfl (lv_at hl 0 rfl) ?_
  refine lv_if_ne (tgt := 19) hx hb dX12_isCarried_1 (by decide) (fun c_1 => ?_) (fun c_1 => ?_)
  · refine lv_iload_n hx hb dX12_isCarried_19 rfl (lv_at hl 0 rfl) ?_
    refine lv_iconst (v := 1) hx hb dX12_isCarried_20 (by decide) ?_
    refine lv_icmp_ne (tgt := 39) hx hb dX12_isCarried_21 (by decide) (fun c_2 => ?_) (fun c_2 => ?_)
    · refine lv_iconst (v := 3) hx hb dX12_isCarried_39 (by decide) ?_
      refine lv_iload_n hx hb dX12_isCarried_40 rfl (lv_at hl 1 rfl) ?_
      refine lv_imul hx hb dX12_isCarried_41 ?_
      refine lv_topi (fun x_3 e_3 => ?_)
      refine lv_iconst (v := 2) hx hb dX12_isCarried_42 (by decide) ?_
      refine lv_iload_n hx hb dX12_isCarried_43 rfl (lv_at hl 2 rfl) ?_
      refine lv_imul hx hb dX12_isCarried_44 ?_
      refine lv_topi (fun x_4 e_4 => ?_)
      refine lv_icmp_lt (tgt := 52) hx hb dX12_isCarried_45 (by decide) (fun c_5 => ?_) (fun c_5 => ?_)
      · refine lv_iconst (v := 0) hx hb dX12_isCarried_52 (by decide) ?_
        have hpd9 := pd_N (cx := []) hP hD [] (by decide) rfl
        have hP9 := hpd9.1
        have hD9 := hpd9.2
        refine W.widen (k := 0) (n := 0) (by omega) (by omega) ?_
        exact W.zret (v := 0) hx hb hr rfl (fun t ht hW => ⟨⟨0, (), rfl, by have h8 := c_5; rw [e_3, e_4, en_2 ha hy] at h8; unfold nd; rw [if_neg c_1, if_neg c_2]; simp [h8], by rw [ht]; exact hP9, va_K.moved hW.alike hK, hD9⟩, hS.F ht⟩) hS.2.2 dX12_isCarried_53
      · refine lv_iconst (v := 1) hx hb dX12_isCarried_48 (by decide) ?_
        refine lv_goto (tgt := 53) hx hb dX12_isCarried_49 (by decide) ?_
        have hpd9 := pd_N (cx := []) hP hD [] (by decide) rfl
        have hP9 := hpd9.1
        have hD9 := hpd9.2
        refine W.widen (k := 0) (n := 0) (by omega) (by omega) ?_
        exact W.zret (v := 1) hx hb hr rfl (fun t ht hW => ⟨⟨1, (), rfl, by have h8 := c_5; rw [e_3, e_4, en_2 ha hy] at h8; unfold nd; rw [if_neg c_1, if_neg c_2]; simp [h8], by rw [ht]; exact hP9, va_K.moved hW.alike hK, hD9⟩, hS.F ht⟩) hS.2.2 dX12_isCarried_53
    · refine lv_iconst (v := 2) hx hb dX12_isCarried_24 (by decide) ?_
      refine lv_iload_n hx hb dX12_isCarried_25 rfl (lv_at hl 1 rfl) ?_
      refine lv_imul hx hb dX12_isCarried_26 ?_
      refine lv_topi (fun x_6 e_6 => ?_)
      refine lv_iload_n hx hb dX12_isCarried_27 rfl (lv_at hl 2 rfl) ?_
      refine lv_icmp_le (tgt := 35) hx hb dX12_isCarried_28 (by decide) (fun c_7 => ?_) (fun c_7 => ?_)
      · refine lv_iconst (v := 0) hx hb dX12_isCarried_35 (by decide) ?_
        refine lv_goto (tgt := 53) hx hb dX12_isCarried_36 (by decide) ?_
        have hpd9 := pd_N (cx := []) hP hD [] (by decide) rfl
        have hP9 := hpd9.1
        have hD9 := hpd9.2
        refine W.widen (k := 0) (n := 0) (by omega) (by omega) ?_
        exact W.zret (v := 0) hx hb hr rfl (fun t ht hW => ⟨⟨0, (), rfl, by have h8 := c_7; rw [e_6, en_1 ha hy] at h8; unfold nd; rw [if_neg c_1, if_pos c_2]; simp [h8], by rw [ht]; exact hP9, va_K.moved hW.alike hK, hD9⟩, hS.F ht⟩) hS.2.2 dX12_isCarried_53
      · refine lv_iconst (v := 1) hx hb dX12_isCarried_31 (by decide) ?_
        refine lv_goto (tgt := 53) hx hb dX12_isCarried_32 (by decide) ?_
        have hpd9 := pd_N (cx := []) hP hD [] (by decide) rfl
        have hP9 := hpd9.1
        have hD9 := hpd9.2
        refine W.widen (k := 0) (n := 0) (by omega) (by omega) ?_
        exact W.zret (v := 1) hx hb hr rfl (fun t ht hW => ⟨⟨1, (), rfl, by have h8 := c_7; rw [e_6, en_1 ha hy] at h8; unfold nd; rw [if_neg c_1, if_pos c_2]; simp [h8], by rw [ht]; exact hP9, va_K.moved hW.alike hK, hD9⟩, hS.F ht⟩) hS.2.2 dX12_isCarried_53
  · refine lv_iconst (v := 2) hx hb dX12_isCarried_4 (by decide) ?_
    refine lv_iload_n hx hb dX12_isCarried_5 rfl (lv_at hl 1 rfl) ?_
    refine lv_imul hx hb dX12_isCarried_6 ?_
    refine lv_topi (fun x_8 e_8 => ?_)
    refine lv_iload_n hx hb dX12_isCarried_7 rfl (lv_at hl 2 rfl) ?_
    refine lv_icmp_lt (tgt := 15) hx hb dX12_isCarried_8 (by decide) (fun c_9 => ?_) (fun c_9 => ?_)
    · refine lv_iconst (v := 0) hx hb dX12_isCarried_15 (by decide) ?_
      refine lv_goto (tgt := 53) hx hb dX12_isCarried_16 (by decide) ?_
      have hpd9 := pd_N (cx := []) hP hD [] (by decide) rfl
      have hP9 := hpd9.1
      have hD9 := hpd9.2
      refine W.widen (k := 0) (n := 0) (by omega) (by omega) ?_
      exact W.zret (v := 0) hx hb hr rfl (fun t ht hW => ⟨⟨0, (), rfl, by have h8 := c_9; rw [e_8, en_0 ha hy] at h8; unfold nd; rw [if_pos c_1]; simp [h8], by rw [ht]; exact hP9, va_K.moved hW.alike hK, hD9⟩, hS.F ht⟩) hS.2.2 dX12_isCarried_53
    · refine lv_iconst (v := 1) hx hb dX12_isCarried_11 (by decide) ?_
      refine lv_goto (tgt := 53) hx hb dX12_isCarried_12 (by decide) ?_
      have hpd9 := pd_N (cx := []) hP hD [] (by decide) rfl
      have hP9 := hpd9.1
      have hD9 := hpd9.2
      refine W.widen (k := 0) (n := 0) (by omega) (by omega) ?_
      exact W.zret (v := 1) hx hb hr rfl (fun t ht hW => ⟨⟨1, (), rfl, by have h8 := c_9; rw [e_8, en_0 ha hy] at h8; unfold nd; rw [if_pos c_1]; simp [h8], by rw [ht]; exact hP9, va_K.moved hW.alike hK, hD9⟩, hS.F ht⟩) hS.2.2 dX12_isCarried_53

set_option maxHeartbeats 1000000 in
set_option maxRecDepth 100000 in
/-- X12_above_z -/
theorem c_X12_above_z (l : Launch) (dC : Nat → ClassId) (dI : Nat → Nat → Nat) (aC : Nat → ClassId) (sz : Nat) (z : Int) (hz : sm z) : Met l yX12_above (wW yX12_above cX12_above 1 (some .int)) ({ frames := 0, cells := 0, slots := 0, locals := 0 } : Room) (va_Pc [Value.int (iI z)] (fun U => U.heap.size = sz ∧ va_P (dC, dI) classes [] U.heap ∧ va_K (dC, dI) classes (TY aC) U ∧ va_D (fun _ => True) [] ∧ NX U)) (va_Qi (fun (r : Int32) (_ : Unit) => r = nI z.toNat) (fun (_ : Unit) (t : State) => va_P (dC, dI) classes [] t.heap ∧ va_K (dC, dI) classes (TY aC) t ∧ va_D (va_A [] sz) []) (va_A [] sz)) 0 0 (va_A [] sz) := by
  refine Met.ofW (cc := cX12_above) (maxL := 1) (ret := (some .int)) (by decide) rfl ?_
  intro p e s m args below meth c s₁ B hml hv
  obtain ⟨rfl, hsz, hP, hK, hD0, hN⟩ := hv
  have hx := B.exec
  have hb := B.bytes
  have hr := B.returns
  have hts0 := atoms_spec (ws := (wW yX12_above cX12_above 1 (some .int))) B.pre
  have hts : ∀ w9 ∈ lw_G, w9.before ([Value.int (iI z)] : List Value).toArray s = true := fun w9 h9 => hts0 w9 (List.mem_cons_of_mem _ h9)
  have hown : s.vm.findClass RX12 = some m.cls := findClass_of_methodNamed (x := yX12_above) B.named
  have hlocks := B.notSynchronized
  subst hsz
  have hD := hD0.self (sz := s.heap.size)
  generalize hAe : va_A [] s.heap.size = A at hD ⊢
  have hA : ∀ q : Nat, s.heap.size ≤ q → A q := fun q h => by rw [← hAe]; exact Or.inr h
  obtain ⟨H, hHe⟩ : ∃ H : Heap, H = s.heap := ⟨_, rfl⟩
  have hS : va_S A s.heap H [] := by rw [hHe]; exact va_S.rf
  have hP : va_P (dC, dI) classes [] H := by rw [hHe]; exact hP
  have hl := lv_entry ([Value.int (iI z)]) (n := 1) (Nat.le_of_ble_eq_true rfl)
  rw [lg_entry_eq]
  generalize (lg_sl ([Value.int (iI z)]) ++ List.replicate (1 - (lg_sl ([Value.int (iI z)])).length) Slot.unset).toArray = ls at hl ⊢
  have hl : lv_has ls 1 [(0, Value.int (iI z))] := hl
  rw [← hHe]
  refine lv_iload_n hx hb dX12_above_0 rfl (lv_at hl 0 rfl) ?_
  refine lv_if_ge (tgt := 8) hx hb dX12_above_1 (by decide) (fun c_1 => ?_) (fun c_1 => ?_)
  · refine lv_iload_n hx hb dX12_above_8 rfl (lv_at hl 0 rfl) ?_
    have hpd9 := pd_N (cx := []) hP hD [] (by decide) rfl
    have hP9 := hpd9.1
    have hD9 := hpd9.2
    refine W.widen (k := 0) (n := 0) (by omega) (by omega) ?_
    exact W.iret (v := iI z) hx hb hr (fun t ht hW => ⟨⟨(iI z), (), rfl, ab_p hz c_1, by rw [ht]; exact hP9, va_K.moved hW.alike hK, hD9⟩, hS.F ht⟩) hS.2.2 dX12_above_9
  · refine lv_iconst (v := 0) hx hb dX12_above_4 (by decide) ?_
    refine lv_goto (tgt := 9) hx hb dX12_above_5 (by decide) ?_
    have hpd9 := pd_N (cx := []) hP hD [] (by decide) rfl
    have hP9 := hpd9.1
    have hD9 := hpd9.2
    refine W.widen (k := 0) (n := 0) (by omega) (by omega) ?_
    exact W.iret (v := 0) hx hb hr (fun t ht hW => ⟨⟨0, (), rfl, ab_n hz c_1, by rw [ht]; exact hP9, va_K.moved hW.alike hK, hD9⟩, hS.F ht⟩) hS.2.2 dX12_above_9

set_option maxHeartbeats 1000000 in
set_option maxRecDepth 100000 in
/-- X12_weightOf -/
theorem c_X12_weightOf (l : Launch) (dC : Nat → ClassId) (dI : Nat → Nat → Nat) (aC : Nat → ClassId) (sz : Nat) (g0 : Nat) (m_refused : Nat) (m_kind : Nat) (m_figure : Nat) (m_weight : Nat) (m_got : Nat) (m_setting : Nat) (m_tape : Nat) (m_letter : Nat) (m_letterAt : Nat) (m_told : Nat) (m_kept : Nat) (m_price : Nat) (m_offer : Nat) (m_gets : Nat) (m_yes : Nat) (m_buys : Nat) (m_ends : Nat) (m_carried : Nat) (m_row : Nat) (m_keptRow : Nat) (m_likeGets : Nat) (m_likePrice : Nat) (m_ahead : Nat) (msy : Int32) (mdn : Int32) (tp : Int32) (mat : Int32) (stm : Int32) (him : Int32) (ki : Int32) (crs : Int32) (rm : Int32) (n : Nat) (wf : Nat → Int32) (W0 : Nat → Nat) (y : Int32) (hw : n ≤ 8 ∧ ∀ j, j < n → wf j = nI (W0 j) ∧ W0 j ≤ 9) : Met l yX12_weightOf (wW yX12_weightOf cX12_weightOf 4 (some .int)) ({ frames := 0, cells := 0, slots := 0, locals := 0 } : Room) (va_Pc [Value.ref g0, Value.int y] (fun U => U.heap.size = sz ∧ va_P (dC, dI) classes [oX12 g0 m_refused m_kind m_figure m_weight m_got m_setting (nI n) msy mdn m_tape m_letter m_letterAt m_told tp mat stm m_kept him ki crs m_price m_offer m_gets m_yes m_buys m_ends m_carried m_row rm m_keptRow m_likeGets m_likePrice m_ahead, cI aC m_weight 9 wf] U.heap ∧ va_K (dC, dI) classes (TY aC) U ∧ va_D (fun _ => True) [oX12 g0 m_refused m_kind m_figure m_weight m_got m_setting (nI n) msy mdn m_tape m_letter m_letterAt m_told tp mat stm m_kept him ki crs m_price m_offer m_gets m_yes m_buys m_ends m_carried m_row rm m_keptRow m_likeGets m_likePrice m_ahead, cI aC m_weight 9 wf] ∧ NX U)) (va_Qi (fun (r : Int32) (_ : Unit) => r = nI (yw W0 y 0 n)) (fun (_ : Unit) (t : State) => va_P (dC, dI) classes [oX12 g0 m_refused m_kind m_figure m_weight m_got m_setting (nI n) msy mdn m_tape m_letter m_letterAt m_told tp mat stm m_kept him ki crs m_price m_offer m_gets m_yes m_buys m_ends m_carried m_row rm m_keptRow m_likeGets m_likePrice m_ahead, cI aC m_weight 9 wf] t.heap ∧ va_K (dC, dI) classes (TY aC) t ∧ va_D (va_A [oX12 g0 m_refused m_kind m_figure m_weight m_got m_setting (nI n) msy mdn m_tape m_letter m_letterAt m_told tp mat stm m_kept him ki crs m_price m_offer m_gets m_yes m_buys m_ends m_carried m_row rm m_keptRow m_likeGets m_likePrice m_ahead, cI aC m_weight 9 wf] sz) [oX12 g0 m_refused m_kind m_figure m_weight m_got m_setting (nI n) msy mdn m_tape m_letter m_letterAt m_told tp mat stm m_kept him ki crs m_price m_offer m_gets m_yes m_buys m_ends m_carried m_row rm m_keptRow m_likeGets m_likePrice m_ahead, cI aC m_weight 9 wf]) (va_A [oX12 g0 m_refused m_kind m_figure m_weight m_got m_setting (nI n) msy mdn m_tape m_letter m_letterAt m_told tp mat stm m_kept him ki crs m_price m_offer m_gets m_yes m_buys m_ends m_carried m_row rm m_keptRow m_likeGets m_likePrice m_ahead, cI aC m_weight 9 wf] sz)) 0 0 (va_A [oX12 g0 m_refused m_kind m_figure m_weight m_got m_setting (nI n) msy mdn m_tape m_letter m_letterAt m_told tp mat stm m_kept him ki crs m_price m_offer m_gets m_yes m_buys m_ends m_carried m_row rm m_keptRow m_likeGets m_likePrice m_ahead, cI aC m_weight 9 wf] sz) := by
  refine Met.ofW (cc := cX12_weightOf) (maxL := 4) (ret := (some .int)) (by decide) rfl ?_
  intro p e s m args below meth c s₁ B hml hv
  obtain ⟨rfl, hsz, hP, hK, hD0, hN⟩ := hv
  have hx := B.exec
  have hb := B.bytes
  have hr := B.returns
  have hts0 := atoms_spec (ws := (wW yX12_weightOf cX12_weightOf 4 (some .int))) B.pre
  have hts : ∀ w9 ∈ lw_G, w9.before ([Value.ref g0, Value.int y] : List Value).toArray s = true := fun w9 h9 => hts0 w9 (List.mem_cons_of_mem _ h9)
  have hown : s.vm.findClass RX12 = some m.cls := findClass_of_methodNamed (x := yX12_weightOf) B.named
  have hlocks := B.notSynchronized
  subst hsz
  have hD := hD0.self (sz := s.heap.size)
  generalize hAe : va_A [oX12 g0 m_refused m_kind m_figure m_weight m_got m_setting (nI n) msy mdn m_tape m_letter m_letterAt m_told tp mat stm m_kept him ki crs m_price m_offer m_gets m_yes m_buys m_ends m_carried m_row rm m_keptRow m_likeGets m_likePrice m_ahead, cI aC m_weight 9 wf] s.heap.size = A at hD ⊢
  have hA : ∀ q : Nat, s.heap.size ≤ q → A q := fun q h => by rw [← hAe]; exact Or.inr h
  obtain ⟨H, hHe⟩ : ∃ H : Heap, H = s.heap := ⟨_, rfl⟩
  have hS : va_S A s.heap H [] := by rw [hHe]; exact va_S.rf
  have hP : va_P (dC, dI) classes [oX12 g0 m_refused m_kind m_figure m_weight m_got m_setting (nI n) msy mdn m_tape m_letter m_letterAt m_told tp mat stm m_kept him ki crs m_price m_offer m_gets m_yes m_buys m_ends m_carried m_row rm m_keptRow m_likeGets m_likePrice m_ahead, cI aC m_weight 9 wf] H := by rw [hHe]; exact hP
  have hl := lv_entry ([Value.ref g0, Value.int y]) (n := 4) (Nat.le_of_ble_eq_true rfl)
  rw [lg_entry_eq]
  generalize (lg_sl ([Value.ref g0, Value.int y]) ++ List.replicate (4 - (lg_sl ([Value.ref g0, Value.int y])).length) Slot.unset).toArray = ls at hl ⊢
  have hl : lv_has ls 4 [(0, Value.ref g0), (1, Value.int y)] := hl
  rw [← hHe]
  have hn8 := hw.1
  refine lv_iconst (v := 0) hx hb dX12_weightOf_0 (by decide) ?_
  refine lv_istore_n (lv' := [(2, Value.int 0), (0, Value.ref g0), (1, Value.int y)]) hx hb dX12_weightOf_1 rfl hl (by decide) rfl (fun ls hl => ?_)
  refine lv_iconst (v := 0) hx hb dX12_weightOf_2 (by decide) ?_
  refine lv_istore_n (lv' := [(3, Value.int 0), (2, Value.int 0), (0, Value.ref g0), (1, Value.int y)]) hx hb dX12_weightOf_3 rfl hl (by decide) rfl (fun ls hl => ?_)
  have lp_4 : ∀ (fu : Nat) (j : Nat) (hfu : n - j < fu) (hj : j ≤ n) (H : Heap) (locs : List Loc) (ls : Array Slot), va_P (dC, dI) classes [oX12 g0 m_refused m_kind m_figure m_weight m_got m_setting (nI n) msy mdn m_tape m_letter m_letterAt m_told tp mat stm m_kept him ki crs m_price m_offer m_gets m_yes m_buys m_ends m_carried m_row rm m_keptRow m_likeGets m_likePrice m_ahead, cI aC m_weight 9 wf] H → va_D A [oX12 g0 m_refused m_kind m_figure m_weight m_got m_setting (nI n) msy mdn m_tape m_letter m_letterAt m_told tp mat stm m_kept him ki crs m_price m_offer m_gets m_yes m_buys m_ends m_carried m_row rm m_keptRow m_likeGets m_likePrice m_ahead, cI aC m_weight 9 wf] → va_S A s.heap H locs → lv_has ls 4 [(0, Value.ref g0), (1, Value.int y), (2, Value.int (nI (yw W0 y 0 j))), (3, Value.int (nI j))] → W p l e (headSpec (wW yX12_weightOf cX12_weightOf 4 (some .int)) ({ frames := 0, cells := 0, slots := 0, locals := 0 } : Room)).room s m ([Value.ref g0, Value.int y] : List Value).toArray below meth c H locs 0 0 (MQ below (va_Qi (fun (r : Int32) (_ : Unit) => r = nI (yw W0 y 0 n)) (fun (_ : Unit) (t : State) => va_P (dC, dI) classes [oX12 g0 m_refused m_kind m_figure m_weight m_got m_setting (nI n) msy mdn m_tape m_letter m_letterAt m_told tp mat stm m_kept him ki crs m_price m_offer m_gets m_yes m_buys m_ends m_carried m_row rm m_keptRow m_likeGets m_likePrice m_ahead, cI aC m_weight 9 wf] t.heap ∧ va_K (dC, dI) classes (TY aC) t ∧ va_D A [oX12 g0 m_refused m_kind m_figure m_weight m_got m_setting (nI n) msy mdn m_tape m_letter m_letterAt m_told tp mat stm m_kept him ki crs m_price m_offer m_gets m_yes m_buys m_ends m_carried m_row rm m_keptRow m_likeGets m_likePrice m_ahead, cI aC m_weight 9 wf]) A) ([Value.ref g0, Value.int y] : List Value).toArray s 0 0 A) (F0 m 4 ls []) := by
    intro fu
    induction fu with
    | zero => intro j hfu; exact absurd hfu (Nat.not_lt_zero _)
    | succ fu ih_4 =>
      intro j hfu hj H locs ls hP hD hS hl
      refine lv_iload_n hx hb dX12_weightOf_4 rfl (lv_at hl 3 rfl) ?_
      refine lv_aload_n hx hb dX12_weightOf_5 rfl (lv_at hl 0 rfl) ?_
      refine va_get (D := (dC, dI)) (ci := 12) (v := Value.int (nI n)) (C := RX12) (T := TX12) (N := 33) hx hb hts inX12 hown hK hP 0 rfl rfl 6 (by decide) (hts _ (gw kw_723 rfl)) (fun _ h9 => h9) rfl dX12_weightOf_6 ?_
      refine lv_icmp_ge (tgt := 33) hx hb dX12_weightOf_9 (by decide) (fun c_1 => ?_) (fun c_1 => ?_)
      · have hjn : j = n := by
          rcases Nat.lt_or_ge j n with q | q
          · exact absurd c_1 (nI_ge q (by omega))
          · omega
        refine lv_iload_n hx hb dX12_weightOf_33 rfl (lv_at hl 2 rfl) ?_
        have hpd9 := pd_N (cx := [oX12 g0 m_refused m_kind m_figure m_weight m_got m_setting (nI n) msy mdn m_tape m_letter m_letterAt m_told tp mat stm m_kept him ki crs m_price m_offer m_gets m_yes m_buys m_ends m_carried m_row rm m_keptRow m_likeGets m_likePrice m_ahead, cI aC m_weight 9 wf]) hP hD [0, 1] (by decide) rfl
        have hP9 := hpd9.1
        have hD9 := hpd9.2
        refine W.widen (k := 0) (n := 0) (by omega) (by omega) ?_
        exact W.iret (v := nI (yw W0 y 0 j)) hx hb hr (fun t ht hW => ⟨⟨(nI (yw W0 y 0 j)), (), rfl, by rw [hjn], by rw [ht]; exact hP9, va_K.moved hW.alike hK, hD9⟩, hS.F ht⟩) hS.2.2 dX12_weightOf_34
      · have hlt : j < n := by
          rcases Nat.lt_or_ge j n with q | q
          · exact q
          · exact absurd (nI_le q (by omega)) c_1
        refine lv_iload_n hx hb dX12_weightOf_12 rfl (lv_at hl 2 rfl) ?_
        refine lv_iload_n hx hb dX12_weightOf_13 rfl (lv_at hl 1 rfl) ?_
        refine lv_iload_n hx hb dX12_weightOf_14 rfl (lv_at hl 3 rfl) ?_
        refine lv_ishr hx hb dX12_weightOf_15 ?_
        refine lv_topi (fun x_2 e_2 => ?_)
        refine lv_iconst (v := 1) hx hb dX12_weightOf_16 (by decide) ?_
        refine lv_iand hx hb dX12_weightOf_17 ?_
        refine lv_topi (fun x_3 e_3 => ?_)
        refine lv_aload_n hx hb dX12_weightOf_18 rfl (lv_at hl 0 rfl) ?_
        refine va_get (D := (dC, dI)) (ci := 12) (v := Value.ref m_weight) (C := RX12) (T := TX12) (N := 33) hx hb hts inX12 hown hK hP 0 rfl rfl 3 (by decide) (hts _ (gw kw_720 rfl)) (fun _ h9 => h9) rfl dX12_weightOf_19 ?_
        refine lv_iload_n hx hb dX12_weightOf_22 rfl (lv_at hl 3 rfl) ?_
        have h_4 : vp_in (nI j) 9 := by first | exact vp_in_nI (by omega) (by omega) | (unfold vp_in; decide) | (subst_vars; first | (unfold vp_in; decide) | exact vp_in_nI (by omega) (by omega))
        refine va_iald hx hb hK hP 1 0 rfl rfl h_4 dX12_weightOf_23 ?_
        refine lv_topi (fun x_5 e_5 => ?_)
        have h9 : x_5 = nI (W0 j) := by rw [e_5, nI_clamp (by omega)]; exact (hw.2 j hlt).1
        subst h9
        refine lv_imul hx hb dX12_weightOf_24 ?_
        refine lv_topi (fun x_6 e_6 => ?_)
        have h9 : x_6 = nI (if bt y j = true then W0 j else 0) := by rw [e_6, e_3, e_2]; exact b_mul (by omega)
        subst h9
        refine lv_iadd hx hb dX12_weightOf_25 ?_
        refine lv_topi (fun x_7 e_7 => ?_)
        have h9 : x_7 = nI (yw W0 y 0 (j + 1)) := by rw [e_7, nI_add, yw_s0]
        subst h9
        refine lv_istore_n (lv' := [(2, Value.int (nI (yw W0 y 0 (j + 1)))), (0, Value.ref g0), (1, Value.int y), (3, Value.int (nI j))]) hx hb dX12_weightOf_26 rfl hl (by decide) rfl (fun ls hl => ?_)
        obtain ⟨x_8, e_8⟩ : ∃ y : Int32, y = (nI j) + 1 := ⟨_, rfl⟩
        refine lv_iinc (v := x_8) (lv' := [(3, Value.int x_8), (2, Value.int (nI (yw W0 y 0 (j + 1)))), (0, Value.ref g0), (1, Value.int y)]) hx hb dX12_weightOf_27 hl (k := 3) rfl (by rw [e_8]; rfl) (by decide) rfl (fun ls hl => ?_)
        have h9 : x_8 = nI (j + 1) := by rw [e_8, nI_1]
        subst h9
        refine lv_goto (tgt := 4) hx hb dX12_weightOf_30 (by decide) ?_
        exact ih_4 (j + 1) (ms_lt hlt hfu) (by omega) _ _ _ (hP.sub [0, 1] rfl) (hD.sub [0, 1] (by decide) rfl) hS (lv_sub hl [2, 3, 1, 0] rfl)
  exact lp_4 ((n - 0) + 1) 0 (Nat.lt_succ_self _) (Nat.zero_le _) _ _ _ (hP.sub [0, 1] rfl) (hD.sub [0, 1] (by decide) rfl) hS (lv_sub hl [2, 3, 1, 0] rfl)

set_option maxHeartbeats 1000000 in
set_option maxRecDepth 100000 in
/-- X12_leftFrom -/
theorem c_X12_leftFrom (l : Launch) (dC : Nat → ClassId) (dI : Nat → Nat → Nat) (aC : Nat → ClassId) (sz : Nat) (g0 : Nat) (m_refused : Nat) (m_kind : Nat) (m_figure : Nat) (m_weight : Nat) (m_got : Nat) (m_setting : Nat) (m_tape : Nat) (m_letter : Nat) (m_letterAt : Nat) (m_told : Nat) (m_kept : Nat) (m_price : Nat) (m_offer : Nat) (m_gets : Nat) (m_yes : Nat) (m_buys : Nat) (m_ends : Nat) (m_carried : Nat) (m_row : Nat) (m_keptRow : Nat) (m_likeGets : Nat) (m_likePrice : Nat) (m_ahead : Nat) (msy : Int32) (mdn : Int32) (tp : Int32) (mat : Int32) (stm : Int32) (him : Int32) (ki : Int32) (crs : Int32) (rm : Int32) (n : Nat) (i : Nat) (hi : i ≤ n ∧ n ≤ 8) : Met l yX12_leftFrom (wW yX12_leftFrom cX12_leftFrom 2 (some .int)) ({ frames := 0, cells := 0, slots := 0, locals := 0 } : Room) (va_Pc [Value.ref g0, Value.int (nI i)] (fun U => U.heap.size = sz ∧ va_P (dC, dI) classes [oX12 g0 m_refused m_kind m_figure m_weight m_got m_setting (nI n) msy mdn m_tape m_letter m_letterAt m_told tp mat stm m_kept him ki crs m_price m_offer m_gets m_yes m_buys m_ends m_carried m_row rm m_keptRow m_likeGets m_likePrice m_ahead] U.heap ∧ va_K (dC, dI) classes (TY aC) U ∧ va_D (fun _ => True) [oX12 g0 m_refused m_kind m_figure m_weight m_got m_setting (nI n) msy mdn m_tape m_letter m_letterAt m_told tp mat stm m_kept him ki crs m_price m_offer m_gets m_yes m_buys m_ends m_carried m_row rm m_keptRow m_likeGets m_likePrice m_ahead] ∧ NX U)) (va_Qi (fun (r : Int32) (_ : Unit) => ∀ b, b < 32 → bt r b = decide (i ≤ b ∧ b < n)) (fun (_ : Unit) (t : State) => va_P (dC, dI) classes [oX12 g0 m_refused m_kind m_figure m_weight m_got m_setting (nI n) msy mdn m_tape m_letter m_letterAt m_told tp mat stm m_kept him ki crs m_price m_offer m_gets m_yes m_buys m_ends m_carried m_row rm m_keptRow m_likeGets m_likePrice m_ahead] t.heap ∧ va_K (dC, dI) classes (TY aC) t ∧ va_D (va_A [oX12 g0 m_refused m_kind m_figure m_weight m_got m_setting (nI n) msy mdn m_tape m_letter m_letterAt m_told tp mat stm m_kept him ki crs m_price m_offer m_gets m_yes m_buys m_ends m_carried m_row rm m_keptRow m_likeGets m_likePrice m_ahead] sz) [oX12 g0 m_refused m_kind m_figure m_weight m_got m_setting (nI n) msy mdn m_tape m_letter m_letterAt m_told tp mat stm m_kept him ki crs m_price m_offer m_gets m_yes m_buys m_ends m_carried m_row rm m_keptRow m_likeGets m_likePrice m_ahead]) (va_A [oX12 g0 m_refused m_kind m_figure m_weight m_got m_setting (nI n) msy mdn m_tape m_letter m_letterAt m_told tp mat stm m_kept him ki crs m_price m_offer m_gets m_yes m_buys m_ends m_carried m_row rm m_keptRow m_likeGets m_likePrice m_ahead] sz)) 0 0 (va_A [oX12 g0 m_refused m_kind m_figure m_weight m_got m_setting (nI n) msy mdn m_tape m_letter m_letterAt m_told tp mat stm m_kept him ki crs m_price m_offer m_gets m_yes m_buys m_ends m_carried m_row rm m_keptRow m_likeGets m_likePrice m_ahead] sz) := by
  refine Met.ofW (cc := cX12_leftFrom) (maxL := 2) (ret := (some .int)) (by decide) rfl ?_
  intro p e s m args below meth c s₁ B hml hv
  obtain ⟨rfl, hsz, hP, hK, hD0, hN⟩ := hv
  have hx := B.exec
  have hb := B.bytes
  have hr := B.returns
  have hts0 := atoms_spec (ws := (wW yX12_leftFrom cX12_leftFrom 2 (some .int))) B.pre
  have hts : ∀ w9 ∈ lw_G, w9.before ([Value.ref g0, Value.int (nI i)] : List Value).toArray s = true := fun w9 h9 => hts0 w9 (List.mem_cons_of_mem _ h9)
  have hown : s.vm.findClass RX12 = some m.cls := findClass_of_methodNamed (x := yX12_leftFrom) B.named
  have hlocks := B.notSynchronized
  subst hsz
  have hD := hD0.self (sz := s.heap.size)
  generalize hAe : va_A [oX12 g0 m_refused m_kind m_figure m_weight m_got m_setting (nI n) msy mdn m_tape m_letter m_letterAt m_told tp mat stm m_kept him ki crs m_price m_offer m_gets m_yes m_buys m_ends m_carried m_row rm m_keptRow m_likeGets m_likePrice m_ahead] s.heap.size = A at hD ⊢
  have hA : ∀ q : Nat, s.heap.size ≤ q → A q := fun q h => by rw [← hAe]; exact Or.inr h
  obtain ⟨H, hHe⟩ : ∃ H : Heap, H = s.heap := ⟨_, rfl⟩
  have hS : va_S A s.heap H [] := by rw [hHe]; exact va_S.rf
  have hP : va_P (dC, dI) classes [oX12 g0 m_refused m_kind m_figure m_weight m_got m_setting (nI n) msy mdn m_tape m_letter m_letterAt m_told tp mat stm m_kept him ki crs m_price m_offer m_gets m_yes m_buys m_ends m_carried m_row rm m_keptRow m_likeGets m_likePrice m_ahead] H := by rw [hHe]; exact hP
  have hl := lv_entry ([Value.ref g0, Value.int (nI i)]) (n := 2) (Nat.le_of_ble_eq_true rfl)
  rw [lg_entry_eq]
  generalize (lg_sl ([Value.ref g0, Value.int (nI i)]) ++ List.replicate (2 - (lg_sl ([Value.ref g0, Value.int (nI i)])).length) Slot.unset).toArray = ls at hl ⊢
  have hl : lv_has ls 2 [(0, Value.ref g0), (1, Value.int (nI i))] := hl
  rw [← hHe]
  refine lv_iconst (v := 1) hx hb dX12_leftFrom_0 (by decide) ?_
  refine lv_aload_n hx hb dX12_leftFrom_1 rfl (lv_at hl 0 rfl) ?_
  refine va_get (D := (dC, dI)) (ci := 12) (v := Value.int (nI n)) (C := RX12) (T := TX12) (N := 33) hx hb hts inX12 hown hK hP 0 rfl rfl 6 (by decide) (hts _ (gw kw_723 rfl)) (fun _ h9 => h9) rfl dX12_leftFrom_2 ?_
  refine lv_ishl hx hb dX12_leftFrom_5 ?_
  refine lv_topi (fun x_1 e_1 => ?_)
  refine lv_iconst (v := 1) hx hb dX12_leftFrom_6 (by decide) ?_
  refine lv_iload_n hx hb dX12_leftFrom_7 rfl (lv_at hl 1 rfl) ?_
  refine lv_ishl hx hb dX12_leftFrom_8 ?_
  refine lv_topi (fun x_2 e_2 => ?_)
  refine lv_isub hx hb dX12_leftFrom_9 ?_
  refine lv_topi (fun x_3 e_3 => ?_)
  have hpd9 := pd_N (cx := [oX12 g0 m_refused m_kind m_figure m_weight m_got m_setting (nI n) msy mdn m_tape m_letter m_letterAt m_told tp mat stm m_kept him ki crs m_price m_offer m_gets m_yes m_buys m_ends m_carried m_row rm m_keptRow m_likeGets m_likePrice m_ahead]) hP hD [0] (by decide) rfl
  have hP9 := hpd9.1
  have hD9 := hpd9.2
  refine W.widen (k := 0) (n := 0) (by omega) (by omega) ?_
  exact W.iret (v := x_3) hx hb hr (fun t ht hW => ⟨⟨x_3, (), rfl, fun b hb => by rw [e_3, e_2, e_1]; exact left_bits n (by omega) i (by omega) b hb, by rw [ht]; exact hP9, va_K.moved hW.alike hK, hD9⟩, hS.F ht⟩) hS.2.2 dX12_leftFrom_10

set_option maxHeartbeats 1000000 in
set_option maxRecDepth 100000 in
/-- X12_priceOf -/
theorem c_X12_priceOf (l : Launch) (dC : Nat → ClassId) (dI : Nat → Nat → Nat) (aC : Nat → ClassId) (sz : Nat) (g0 : Nat) (m_refused : Nat) (m_kind : Nat) (m_figure : Nat) (m_weight : Nat) (m_got : Nat) (m_setting : Nat) (m_tape : Nat) (m_letter : Nat) (m_letterAt : Nat) (m_told : Nat) (m_kept : Nat) (m_price : Nat) (m_offer : Nat) (m_gets : Nat) (m_yes : Nat) (m_buys : Nat) (m_ends : Nat) (m_carried : Nat) (m_row : Nat) (m_keptRow : Nat) (m_likeGets : Nat) (m_likePrice : Nat) (m_ahead : Nat) (msy : Int32) (mdn : Int32) (tp : Int32) (mat : Int32) (stm : Int32) (him : Int32) (ki : Int32) (crs : Int32) (rm : Int32) (n : Nat) (kf : Nat → Int32) (ff : Nat → Int32) (stf : Nat → Int32) (j : Nat) (s0 : Int) (kk : Nat) (fg : Nat) (hs : -1 ≤ s0 ∧ s0 ≤ 99) (hj : j < 8) (hkf : kf j = nI kk) (hkk : kk ≤ 6) (hff : ff j = nI fg) (hfg : fg ≤ 9) : Met l yX12_priceOf (wW yX12_priceOf cX12_priceOf 5 (some .int)) ({ frames := 1, cells := 0, slots := 0, locals := 20 } : Room) (va_Pc [Value.ref g0, Value.int (nI j), Value.int (iI s0)] (fun U => U.heap.size = sz ∧ va_P (dC, dI) classes [oX12 g0 m_refused m_kind m_figure m_weight m_got m_setting (nI n) msy mdn m_tape m_letter m_letterAt m_told tp mat stm m_kept him ki crs m_price m_offer m_gets m_yes m_buys m_ends m_carried m_row rm m_keptRow m_likeGets m_likePrice m_ahead, cI aC m_kind 9 kf, cI aC m_figure 9 ff, cI aC m_setting 5 stf] U.heap ∧ va_K (dC, dI) classes (TY aC) U ∧ va_D (fun _ => True) [oX12 g0 m_refused m_kind m_figure m_weight m_got m_setting (nI n) msy mdn m_tape m_letter m_letterAt m_told tp mat stm m_kept him ki crs m_price m_offer m_gets m_yes m_buys m_ends m_carried m_row rm m_keptRow m_likeGets m_likePrice m_ahead, cI aC m_kind 9 kf, cI aC m_figure 9 ff, cI aC m_setting 5 stf] ∧ NX U)) (va_Qi (fun (r : Int32) (_ : Unit) => r = nI (pr kk fg (stf 2) s0)) (fun (_ : Unit) (t : State) => va_P (dC, dI) classes [oX12 g0 m_refused m_kind m_figure m_weight m_got m_setting (nI n) msy mdn m_tape m_letter m_letterAt m_told tp mat stm m_kept him ki crs m_price m_offer m_gets m_yes m_buys m_ends m_carried m_row rm m_keptRow m_likeGets m_likePrice m_ahead, cI aC m_kind 9 kf, cI aC m_figure 9 ff, cI aC m_setting 5 stf] t.heap ∧ va_K (dC, dI) classes (TY aC) t ∧ va_D (va_A [oX12 g0 m_refused m_kind m_figure m_weight m_got m_setting (nI n) msy mdn m_tape m_letter m_letterAt m_told tp mat stm m_kept him ki crs m_price m_offer m_gets m_yes m_buys m_ends m_carried m_row rm m_keptRow m_likeGets m_likePrice m_ahead, cI aC m_kind 9 kf, cI aC m_figure 9 ff, cI aC m_setting 5 stf] sz) [oX12 g0 m_refused m_kind m_figure m_weight m_got m_setting (nI n) msy mdn m_tape m_letter m_letterAt m_told tp mat stm m_kept him ki crs m_price m_offer m_gets m_yes m_buys m_ends m_carried m_row rm m_keptRow m_likeGets m_likePrice m_ahead, cI aC m_kind 9 kf, cI aC m_figure 9 ff, cI aC m_setting 5 stf]) (va_A [oX12 g0 m_refused m_kind m_figure m_weight m_got m_setting (nI n) msy mdn m_tape m_letter m_letterAt m_told tp mat stm m_kept him ki crs m_price m_offer m_gets m_yes m_buys m_ends m_carried m_row rm m_keptRow m_likeGets m_likePrice m_ahead, cI aC m_kind 9 kf, cI aC m_figure 9 ff, cI aC m_setting 5 stf] sz)) 0 0 (va_A [oX12 g0 m_refused m_kind m_figure m_weight m_got m_setting (nI n) msy mdn m_tape m_letter m_letterAt m_told tp mat stm m_kept him ki crs m_price m_offer m_gets m_yes m_buys m_ends m_carried m_row rm m_keptRow m_likeGets m_likePrice m_ahead, cI aC m_kind 9 kf, cI aC m_figure 9 ff, cI aC m_setting 5 stf] sz) := by
  refine Met.ofW (cc := cX12_priceOf) (maxL := 5) (ret := (some .int)) (by decide) rfl ?_
  intro p e s m args below meth c s₁ B hml hv
  obtain ⟨rfl, hsz, hP, hK, hD0, hN⟩ := hv
  have hx := B.exec
  have hb := B.bytes
  have hr := B.returns
  have hts0 := atoms_spec (ws := (wW yX12_priceOf cX12_priceOf 5 (some .int))) B.pre
  have hts : ∀ w9 ∈ lw_G, w9.before ([Value.ref g0, Value.int (nI j), Value.int (iI s0)] : List Value).toArray s = true := fun w9 h9 => hts0 w9 (List.mem_cons_of_mem _ h9)
  have hown : s.vm.findClass RX12 = some m.cls := findClass_of_methodNamed (x := yX12_priceOf) B.named
  have hlocks := B.notSynchronized
  subst hsz
  have hD := hD0.self (sz := s.heap.size)
  generalize hAe : va_A [oX12 g0 m_refused m_kind m_figure m_weight m_got m_setting (nI n) msy mdn m_tape m_letter m_letterAt m_told tp mat stm m_kept him ki crs m_price m_offer m_gets m_yes m_buys m_ends m_carried m_row rm m_keptRow m_likeGets m_likePrice m_ahead, cI aC m_kind 9 kf, cI aC m_figure 9 ff, cI aC m_setting 5 stf] s.heap.size = A at hD ⊢
  have hA : ∀ q : Nat, s.heap.size ≤ q → A q := fun q h => by rw [← hAe]; exact Or.inr h
  obtain ⟨H, hHe⟩ : ∃ H : Heap, H = s.heap := ⟨_, rfl⟩
  have hS : va_S A s.heap H [] := by rw [hHe]; exact va_S.rf
  have hP : va_P (dC, dI) classes [oX12 g0 m_refused m_kind m_figure m_weight m_got m_setting (nI n) msy mdn m_tape m_letter m_letterAt m_told tp mat stm m_kept him ki crs m_price m_offer m_gets m_yes m_buys m_ends m_carried m_row rm m_keptRow m_likeGets m_likePrice m_ahead, cI aC m_kind 9 kf, cI aC m_figure 9 ff, cI aC m_setting 5 stf] H := by rw [hHe]; exact hP
  have hl := lv_entry ([Value.ref g0, Value.int (nI j), Value.int (iI s0)]) (n := 5) (Nat.le_of_ble_eq_true rfl)
  rw [lg_entry_eq]
  generalize (lg_sl ([Value.ref g0, Value.int (nI j), Value.int (iI s0)]) ++ List.replicate (5 - (lg_sl ([Value.ref g0, Value.int (nI j), Value.int (iI s0)])).length) Slot.unset).toArray = ls at hl ⊢
  have hl : lv_has ls 5 [(0, Value.ref g0), (1, Value.int (nI j)), (2, Value.int (iI s0))] := hl
  rw [← hHe]
  have jp_34 : ∀   (H : Heap) (locs : List Loc) (ls : Array Slot), va_P (dC, dI) classes [oX12 g0 m_refused m_kind m_figure m_weight m_got m_setting (nI n) msy mdn m_tape m_letter m_letterAt m_told tp mat stm m_kept him ki crs m_price m_offer m_gets m_yes m_buys m_ends m_carried m_row rm m_keptRow m_likeGets m_likePrice m_ahead, cI aC m_kind 9 kf, cI aC m_figure 9 ff, cI aC m_setting 5 stf] H → va_D A [oX12 g0 m_refused m_kind m_figure m_weight m_got m_setting (nI n) msy mdn m_tape m_letter m_letterAt m_told tp mat stm m_kept him ki crs m_price m_offer m_gets m_yes m_buys m_ends m_carried m_row rm m_keptRow m_likeGets m_likePrice m_ahead, cI aC m_kind 9 kf, cI aC m_figure 9 ff, cI aC m_setting 5 stf] → va_S A s.heap H locs → lv_has ls 5 [(0, Value.ref g0), (1, Value.int (nI j)), (2, Value.int (iI s0)), (3, Value.int (nI (ask (stf 2) s0))), (4, Value.int (nI (env (stf 2) s0)))] → W p l e (headSpec (wW yX12_priceOf cX12_priceOf 5 (some .int)) ({ frames := 1, cells := 0, slots := 0, locals := 20 } : Room)).room s m ([Value.ref g0, Value.int (nI j), Value.int (iI s0)] : List Value).toArray below meth c H locs 0 0 (MQ below (va_Qi (fun (r : Int32) (_ : Unit) => r = nI (pr kk fg (stf 2) s0)) (fun (_ : Unit) (t : State) => va_P (dC, dI) classes [oX12 g0 m_refused m_kind m_figure m_weight m_got m_setting (nI n) msy mdn m_tape m_letter m_letterAt m_told tp mat stm m_kept him ki crs m_price m_offer m_gets m_yes m_buys m_ends m_carried m_row rm m_keptRow m_likeGets m_likePrice m_ahead, cI aC m_kind 9 kf, cI aC m_figure 9 ff, cI aC m_setting 5 stf] t.heap ∧ va_K (dC, dI) classes (TY aC) t ∧ va_D A [oX12 g0 m_refused m_kind m_figure m_weight m_got m_setting (nI n) msy mdn m_tape m_letter m_letterAt m_told tp mat stm m_kept him ki crs m_price m_offer m_gets m_yes m_buys m_ends m_carried m_row rm m_keptRow m_likeGets m_likePrice m_ahead, cI aC m_kind 9 kf, cI aC m_figure 9 ff, cI aC m_setting 5 stf]) A) ([Value.ref g0, Value.int (nI j), Value.int (iI s0)] : List Value).toArray s 0 0 A) (F0 m 34 ls []) := by
    intro   H locs ls hP hD hS hl
    refine lv_aload_n hx hb dX12_priceOf_34 rfl (lv_at hl 0 rfl) ?_
    refine va_get (D := (dC, dI)) (ci := 12) (v := Value.ref m_kind) (C := RX12) (T := TX12) (N := 33) hx hb hts inX12 hown hK hP 0 rfl rfl 1 (by decide) (hts _ (gw kw_718 rfl)) (fun _ h9 => h9) rfl dX12_priceOf_35 ?_
    refine lv_iload_n hx hb dX12_priceOf_38 rfl (lv_at hl 1 rfl) ?_
    have h_1 : vp_in (nI j) 9 := by first | exact vp_in_nI (by omega) (by omega) | (unfold vp_in; decide) | (subst_vars; first | (unfold vp_in; decide) | exact vp_in_nI (by omega) (by omega))
    refine va_iald hx hb hK hP 1 0 rfl rfl h_1 dX12_priceOf_39 ?_
    refine lv_topi (fun x_2 e_2 => ?_)
    have h9 : x_2 = nI kk := by rw [e_2, nI_clamp (by omega)]; exact hkf
    subst h9
    by_cases c_3 : nI kk = 0
    · refine lv_tableIn (tgt := 80) hx hb dX12_priceOf_40 (by rw [c_3]; decide) (by rw [c_3]; decide) (by rw [c_3]; rfl) (by decide) ?_
      refine lv_iload_n hx hb dX12_priceOf_80 rfl (lv_at hl 3 rfl) ?_
      have hpd9 := pd_N (cx := [oX12 g0 m_refused m_kind m_figure m_weight m_got m_setting (nI n) msy mdn m_tape m_letter m_letterAt m_told tp mat stm m_kept him ki crs m_price m_offer m_gets m_yes m_buys m_ends m_carried m_row rm m_keptRow m_likeGets m_likePrice m_ahead, cI aC m_kind 9 kf, cI aC m_figure 9 ff, cI aC m_setting 5 stf]) hP hD [0, 1, 2, 3] (by decide) rfl
      have hP9 := hpd9.1
      have hD9 := hpd9.2
      refine W.widen (k := 0) (n := 0) (by omega) (by omega) ?_
      exact W.iret (v := nI (ask (stf 2) s0)) hx hb hr (fun t ht hW => ⟨⟨(nI (ask (stf 2) s0)), (), rfl, by have h8 : kk = 0 := (nI_eq (a := kk) (b := 0) (by omega) (by omega)).mp c_3; unfold pr; rw [if_pos h8], by rw [ht]; exact hP9, va_K.moved hW.alike hK, hD9⟩, hS.F ht⟩) hS.2.2 dX12_priceOf_81
    by_cases c_4 : nI kk = 1
    · refine lv_tableIn (tgt := 82) hx hb dX12_priceOf_40 (by rw [c_4]; decide) (by rw [c_4]; decide) (by rw [c_4]; rfl) (by decide) ?_
      refine lv_iload_n hx hb dX12_priceOf_82 rfl (lv_at hl 2 rfl) ?_
      have hpd9 := pdf_N (cx := []) hP hD hS hA [] (by decide) rfl
      have hPc := hpd9.1
      have hDc := hpd9.2.1
      have hFc := hpd9.2.2
      clear hpd9
      refine va_calli (va_runS (As := [Value.int (iI s0)]) (rest := []) ⟨hx, hb, hml, hown, hts⟩ (c_X12_above_z l dC dI aC H.size s0 (by unfold sm; omega)) ⟨(callB_of 1 hts (gG kw_907) rfl rfl rfl (hts _ (gw kw_13 rfl)) (hts _ (gw kw_905 rfl)) hd_X12_above ⟨Nat.le_of_ble_eq_true rfl, Nat.le_of_ble_eq_true rfl⟩), (hts _ (gw kw_906 rfl))⟩ ⟨fb_std, pre_std hPc hK hDc hN⟩ rfl rfl hl.1 rfl (lv_room (Nat.le_of_ble_eq_true rfl)) dX12_priceOf_83 ⟨Nat.le_of_ble_eq_true rfl, Nat.le_of_ble_eq_true rfl⟩) hS (fun q _ h => hFc q h) hFc (fun x_5 u9 t9 H1 locs ht hvm hw_5 hB hz1 hk1 hS => ?_)
      obtain ⟨hP1, hK1, hD1⟩ := hB
      rw [ht] at hP1
      clear hK1
      try dsimp only at hw_5
      have hpd9 : PDx (dC, dI) classes A H1 [oX12 g0 m_refused m_kind m_figure m_weight m_got m_setting (nI n) msy mdn m_tape m_letter m_letterAt m_told tp mat stm m_kept him ki crs m_price m_offer m_gets m_yes m_buys m_ends m_carried m_row rm m_keptRow m_likeGets m_likePrice m_ahead, cI aC m_kind 9 kf, cI aC m_figure 9 ff, cI aC m_setting 5 stf] := jn_N (wr := [oX12 g0 m_refused m_kind m_figure m_weight m_got m_setting (nI n) msy mdn m_tape m_letter m_letterAt m_told tp mat stm m_kept him ki crs m_price m_offer m_gets m_yes m_buys m_ends m_carried m_row rm m_keptRow m_likeGets m_likePrice m_ahead, cI aC m_kind 9 kf, cI aC m_figure 9 ff, cI aC m_setting 5 stf]) hFc hk1 hP1 hD1 hP hD [] [0, 1, 2, 3] rfl rfl (by decide) (by decide)
      have hP := hpd9.1
      have hD := hpd9.2
      clear hpd9
      generalize H1 = H at hP hS ⊢
      clear hPc hDc hFc hz1 hk1 hP1 hD1 ht hvm
      have hz_83 := hw_5
      have hpd9 := pd_N (cx := [oX12 g0 m_refused m_kind m_figure m_weight m_got m_setting (nI n) msy mdn m_tape m_letter m_letterAt m_told tp mat stm m_kept him ki crs m_price m_offer m_gets m_yes m_buys m_ends m_carried m_row rm m_keptRow m_likeGets m_likePrice m_ahead, cI aC m_kind 9 kf, cI aC m_figure 9 ff, cI aC m_setting 5 stf]) hP hD [0, 1, 2, 3] (by decide) rfl
      have hP9 := hpd9.1
      have hD9 := hpd9.2
      refine W.widen (k := 0) (n := 0) (by omega) (by omega) ?_
      exact W.iret (v := x_5) hx hb hr (fun t ht hW => ⟨⟨x_5, (), rfl, by have h8 : kk = 1 ∨ kk = 3 := (by first | exact Or.inl ((nI_eq (a := kk) (b := 1) (by omega) (by omega)).mp c_4) | exact Or.inr ((nI_eq (a := kk) (b := 3) (by omega) (by omega)).mp c_4)); rw [hz_83]; rcases h8 with h8 | h8 <;> (rw [h8]; rfl), by rw [ht]; exact hP9, va_K.moved hW.alike hK, hD9⟩, hS.F ht⟩) hS.2.2 dX12_priceOf_86
    by_cases c_6 : nI kk = 2
    · refine lv_tableIn (tgt := 87) hx hb dX12_priceOf_40 (by rw [c_6]; decide) (by rw [c_6]; decide) (by rw [c_6]; rfl) (by decide) ?_
      refine lv_iload hx hb dX12_priceOf_87 (lv_at hl 4 rfl) ?_
      have hpd9 := pd_N (cx := [oX12 g0 m_refused m_kind m_figure m_weight m_got m_setting (nI n) msy mdn m_tape m_letter m_letterAt m_told tp mat stm m_kept him ki crs m_price m_offer m_gets m_yes m_buys m_ends m_carried m_row rm m_keptRow m_likeGets m_likePrice m_ahead, cI aC m_kind 9 kf, cI aC m_figure 9 ff, cI aC m_setting 5 stf]) hP hD [0, 1, 2, 3] (by decide) rfl
      have hP9 := hpd9.1
      have hD9 := hpd9.2
      refine W.widen (k := 0) (n := 0) (by omega) (by omega) ?_
      exact W.iret (v := nI (env (stf 2) s0)) hx hb hr (fun t ht hW => ⟨⟨(nI (env (stf 2) s0)), (), rfl, by have h8 : kk = 2 := (nI_eq (a := kk) (b := 2) (by omega) (by omega)).mp c_6; rw [h8]; rfl, by rw [ht]; exact hP9, va_K.moved hW.alike hK, hD9⟩, hS.F ht⟩) hS.2.2 dX12_priceOf_89
    by_cases c_7 : nI kk = 3
    · refine lv_tableIn (tgt := 82) hx hb dX12_priceOf_40 (by rw [c_7]; decide) (by rw [c_7]; decide) (by rw [c_7]; rfl) (by decide) ?_
      refine lv_iload_n hx hb dX12_priceOf_82 rfl (lv_at hl 2 rfl) ?_
      have hpd9 := pdf_N (cx := []) hP hD hS hA [] (by decide) rfl
      have hPc := hpd9.1
      have hDc := hpd9.2.1
      have hFc := hpd9.2.2
      clear hpd9
      refine va_calli (va_runS (As := [Value.int (iI s0)]) (rest := []) ⟨hx, hb, hml, hown, hts⟩ (c_X12_above_z l dC dI aC H.size s0 (by unfold sm; omega)) ⟨(callB_of 1 hts (gG kw_907) rfl rfl rfl (hts _ (gw kw_13 rfl)) (hts _ (gw kw_905 rfl)) hd_X12_above ⟨Nat.le_of_ble_eq_true rfl, Nat.le_of_ble_eq_true rfl⟩), (hts _ (gw kw_906 rfl))⟩ ⟨fb_std, pre_std hPc hK hDc hN⟩ rfl rfl hl.1 rfl (lv_room (Nat.le_of_ble_eq_true rfl)) dX12_priceOf_83 ⟨Nat.le_of_ble_eq_true rfl, Nat.le_of_ble_eq_true rfl⟩) hS (fun q _ h => hFc q h) hFc (fun x_8 u9 t9 H1 locs ht hvm hw_8 hB hz1 hk1 hS => ?_)
      obtain ⟨hP1, hK1, hD1⟩ := hB
      rw [ht] at hP1
      clear hK1
      try dsimp only at hw_8
      have hpd9 : PDx (dC, dI) classes A H1 [oX12 g0 m_refused m_kind m_figure m_weight m_got m_setting (nI n) msy mdn m_tape m_letter m_letterAt m_told tp mat stm m_kept him ki crs m_price m_offer m_gets m_yes m_buys m_ends m_carried m_row rm m_keptRow m_likeGets m_likePrice m_ahead, cI aC m_kind 9 kf, cI aC m_figure 9 ff, cI aC m_setting 5 stf] := jn_N (wr := [oX12 g0 m_refused m_kind m_figure m_weight m_got m_setting (nI n) msy mdn m_tape m_letter m_letterAt m_told tp mat stm m_kept him ki crs m_price m_offer m_gets m_yes m_buys m_ends m_carried m_row rm m_keptRow m_likeGets m_likePrice m_ahead, cI aC m_kind 9 kf, cI aC m_figure 9 ff, cI aC m_setting 5 stf]) hFc hk1 hP1 hD1 hP hD [] [0, 1, 2, 3] rfl rfl (by decide) (by decide)
      have hP := hpd9.1
      have hD := hpd9.2
      clear hpd9
      generalize H1 = H at hP hS ⊢
      clear hPc hDc hFc hz1 hk1 hP1 hD1 ht hvm
      have hz_83 := hw_8
      have hpd9 := pd_N (cx := [oX12 g0 m_refused m_kind m_figure m_weight m_got m_setting (nI n) msy mdn m_tape m_letter m_letterAt m_told tp mat stm m_kept him ki crs m_price m_offer m_gets m_yes m_buys m_ends m_carried m_row rm m_keptRow m_likeGets m_likePrice m_ahead, cI aC m_kind 9 kf, cI aC m_figure 9 ff, cI aC m_setting 5 stf]) hP hD [0, 1, 2, 3] (by decide) rfl
      have hP9 := hpd9.1
      have hD9 := hpd9.2
      refine W.widen (k := 0) (n := 0) (by omega) (by omega) ?_
      exact W.iret (v := x_8) hx hb hr (fun t ht hW => ⟨⟨x_8, (), rfl, by have h8 : kk = 1 ∨ kk = 3 := (by first | exact Or.inl ((nI_eq (a := kk) (b := 1) (by omega) (by omega)).mp c_7) | exact Or.inr ((nI_eq (a := kk) (b := 3) (by omega) (by omega)).mp c_7)); rw [hz_83]; rcases h8 with h8 | h8 <;> (rw [h8]; rfl), by rw [ht]; exact hP9, va_K.moved hW.alike hK, hD9⟩, hS.F ht⟩) hS.2.2 dX12_priceOf_86
    by_cases c_9 : nI kk = 4
    · refine lv_tableIn (tgt := 90) hx hb dX12_priceOf_40 (by rw [c_9]; decide) (by rw [c_9]; decide) (by rw [c_9]; rfl) (by decide) ?_
      refine lv_aload_n hx hb dX12_priceOf_90 rfl (lv_at hl 0 rfl) ?_
      refine va_get (D := (dC, dI)) (ci := 12) (v := Value.ref m_figure) (C := RX12) (T := TX12) (N := 33) hx hb hts inX12 hown hK hP 0 rfl rfl 2 (by decide) (hts _ (gw kw_719 rfl)) (fun _ h9 => h9) rfl dX12_priceOf_91 ?_
      refine lv_iload_n hx hb dX12_priceOf_94 rfl (lv_at hl 1 rfl) ?_
      have h_10 : vp_in (nI j) 9 := by first | exact vp_in_nI (by omega) (by omega) | (unfold vp_in; decide) | (subst_vars; first | (unfold vp_in; decide) | exact vp_in_nI (by omega) (by omega))
      refine va_iald hx hb hK hP 2 0 rfl rfl h_10 dX12_priceOf_95 ?_
      refine lv_topi (fun x_11 e_11 => ?_)
      have h9 : x_11 = nI fg := by rw [e_11, nI_clamp (by omega)]; exact hff
      subst h9
      have hpd9 := pd_N (cx := [oX12 g0 m_refused m_kind m_figure m_weight m_got m_setting (nI n) msy mdn m_tape m_letter m_letterAt m_told tp mat stm m_kept him ki crs m_price m_offer m_gets m_yes m_buys m_ends m_carried m_row rm m_keptRow m_likeGets m_likePrice m_ahead, cI aC m_kind 9 kf, cI aC m_figure 9 ff, cI aC m_setting 5 stf]) hP hD [0, 1, 2, 3] (by decide) rfl
      have hP9 := hpd9.1
      have hD9 := hpd9.2
      refine W.widen (k := 0) (n := 0) (by omega) (by omega) ?_
      exact W.iret (v := nI fg) hx hb hr (fun t ht hW => ⟨⟨(nI fg), (), rfl, by have h8 : kk = 4 := (nI_eq (a := kk) (b := 4) (by omega) (by omega)).mp c_9; rw [h8]; rfl, by rw [ht]; exact hP9, va_K.moved hW.alike hK, hD9⟩, hS.F ht⟩) hS.2.2 dX12_priceOf_96
    by_cases c_12 : nI kk = 5
    · refine lv_tableIn (tgt := 97) hx hb dX12_priceOf_40 (by rw [c_12]; decide) (by rw [c_12]; decide) (by rw [c_12]; rfl) (by decide) ?_
      refine lv_iload hx hb dX12_priceOf_97 (lv_at hl 4 rfl) ?_
      refine lv_aload_n hx hb dX12_priceOf_99 rfl (lv_at hl 0 rfl) ?_
      refine va_get (D := (dC, dI)) (ci := 12) (v := Value.ref m_figure) (C := RX12) (T := TX12) (N := 33) hx hb hts inX12 hown hK hP 0 rfl rfl 2 (by decide) (hts _ (gw kw_719 rfl)) (fun _ h9 => h9) rfl dX12_priceOf_100 ?_
      refine lv_iload_n hx hb dX12_priceOf_103 rfl (lv_at hl 1 rfl) ?_
      have h_13 : vp_in (nI j) 9 := by first | exact vp_in_nI (by omega) (by omega) | (unfold vp_in; decide) | (subst_vars; first | (unfold vp_in; decide) | exact vp_in_nI (by omega) (by omega))
      refine va_iald hx hb hK hP 2 0 rfl rfl h_13 dX12_priceOf_104 ?_
      refine lv_topi (fun x_14 e_14 => ?_)
      have h9 : x_14 = nI fg := by rw [e_14, nI_clamp (by omega)]; exact hff
      subst h9
      refine lv_iadd hx hb dX12_priceOf_105 ?_
      refine lv_topi (fun x_15 e_15 => ?_)
      have hpd9 := pd_N (cx := [oX12 g0 m_refused m_kind m_figure m_weight m_got m_setting (nI n) msy mdn m_tape m_letter m_letterAt m_told tp mat stm m_kept him ki crs m_price m_offer m_gets m_yes m_buys m_ends m_carried m_row rm m_keptRow m_likeGets m_likePrice m_ahead, cI aC m_kind 9 kf, cI aC m_figure 9 ff, cI aC m_setting 5 stf]) hP hD [0, 1, 2, 3] (by decide) rfl
      have hP9 := hpd9.1
      have hD9 := hpd9.2
      refine W.widen (k := 0) (n := 0) (by omega) (by omega) ?_
      exact W.iret (v := x_15) hx hb hr (fun t ht hW => ⟨⟨x_15, (), rfl, by have h8 : kk = 5 := (nI_eq (a := kk) (b := 5) (by omega) (by omega)).mp c_12; rw [e_15, nI_add, h8]; rfl, by rw [ht]; exact hP9, va_K.moved hW.alike hK, hD9⟩, hS.F ht⟩) hS.2.2 dX12_priceOf_106
    refine lv_tableOut (tgt := 107) hx hb dX12_priceOf_40 (sw_out6 c_3 c_4 c_6 c_7 c_9 c_12) (by decide) ?_
    refine lv_aload_n hx hb dX12_priceOf_107 rfl (lv_at hl 0 rfl) ?_
    refine va_get (D := (dC, dI)) (ci := 12) (v := Value.ref m_figure) (C := RX12) (T := TX12) (N := 33) hx hb hts inX12 hown hK hP 0 rfl rfl 2 (by decide) (hts _ (gw kw_719 rfl)) (fun _ h9 => h9) rfl dX12_priceOf_108 ?_
    refine lv_iload_n hx hb dX12_priceOf_111 rfl (lv_at hl 1 rfl) ?_
    have h_16 : vp_in (nI j) 9 := by first | exact vp_in_nI (by omega) (by omega) | (unfold vp_in; decide) | (subst_vars; first | (unfold vp_in; decide) | exact vp_in_nI (by omega) (by omega))
    refine va_iald hx hb hK hP 2 0 rfl rfl h_16 dX12_priceOf_112 ?_
    refine lv_topi (fun x_17 e_17 => ?_)
    have h9 : x_17 = nI fg := by rw [e_17, nI_clamp (by omega)]; exact hff
    subst h9
    refine lv_iconst (v := 2) hx hb dX12_priceOf_113 (by decide) ?_
    refine lv_idiv hx hb dX12_priceOf_114 (by decide) ?_
    refine lv_topi (fun x_18 e_18 => ?_)
    have hpd9 := pd_N (cx := [oX12 g0 m_refused m_kind m_figure m_weight m_got m_setting (nI n) msy mdn m_tape m_letter m_letterAt m_told tp mat stm m_kept him ki crs m_price m_offer m_gets m_yes m_buys m_ends m_carried m_row rm m_keptRow m_likeGets m_likePrice m_ahead, cI aC m_kind 9 kf, cI aC m_figure 9 ff, cI aC m_setting 5 stf]) hP hD [0, 1, 2, 3] (by decide) rfl
    have hP9 := hpd9.1
    have hD9 := hpd9.2
    refine W.widen (k := 0) (n := 0) (by omega) (by omega) ?_
    exact W.iret (v := x_18) hx hb hr (fun t ht hW => ⟨⟨x_18, (), rfl, by have h8 : kk = 6 := (by have a0 : ¬ kk = 0 := fun q => c_3 (by rw [q]; rfl); have a1 : ¬ kk = 1 := fun q => c_4 (by rw [q]; rfl); have a2 : ¬ kk = 2 := fun q => c_6 (by rw [q]; rfl); have a3 : ¬ kk = 3 := fun q => c_7 (by rw [q]; rfl); have a4 : ¬ kk = 4 := fun q => c_9 (by rw [q]; rfl); have a5 : ¬ kk = 5 := fun q => c_12 (by rw [q]; rfl); omega); rw [e_18, h8]; exact pk_div (d := 2) (by omega) (by omega) (by omega), by rw [ht]; exact hP9, va_K.moved hW.alike hK, hD9⟩, hS.F ht⟩) hS.2.2 dX12_priceOf_115
  refine lv_aload_n hx hb dX12_priceOf_0 rfl (lv_at hl 0 rfl) ?_
  refine va_get (D := (dC, dI)) (ci := 12) (v := Value.ref m_setting) (C := RX12) (T := TX12) (N := 33) hx hb hts inX12 hown hK hP 0 rfl rfl 5 (by decide) (hts _ (gw kw_722 rfl)) (fun _ h9 => h9) rfl dX12_priceOf_1 ?_
  refine lv_iconst (v := 2) hx hb dX12_priceOf_4 (by decide) ?_
  have h_19 : vp_in 2 5 := by first | exact vp_in_nI (by omega) (by omega) | (unfold vp_in; decide) | (subst_vars; first | (unfold vp_in; decide) | exact vp_in_nI (by omega) (by omega))
  refine va_iald hx hb hK hP 3 0 rfl rfl h_19 dX12_priceOf_5 ?_
  refine lv_topi (fun x_20 e_20 => ?_)
  have h9 : x_20 = (stf 2) := by rw [e_20]; rfl
  subst h9
  refine lv_iconst (v := 1) hx hb dX12_priceOf_6 (by decide) ?_
  refine lv_icmp_ne (tgt := 14) hx hb dX12_priceOf_7 (by decide) (fun c_21 => ?_) (fun c_21 => ?_)
  · refine lv_iload_n hx hb dX12_priceOf_14 rfl (lv_at hl 2 rfl) ?_
    refine lv_iconst (v := 1) hx hb dX12_priceOf_15 (by decide) ?_
    refine lv_iadd hx hb dX12_priceOf_16 ?_
    refine lv_topi (fun x_22 e_22 => ?_)
    have h9 : x_22 = iI (s0 + 1) := by rw [e_22, ← iI_1, iI_add]
    subst h9
    have hpd9 := pdf_N (cx := []) hP hD hS hA [] (by decide) rfl
    have hPc := hpd9.1
    have hDc := hpd9.2.1
    have hFc := hpd9.2.2
    clear hpd9
    refine va_calli (va_runS (As := [Value.int (iI (s0 + 1))]) (rest := []) ⟨hx, hb, hml, hown, hts⟩ (c_X12_above_z l dC dI aC H.size (s0 + 1) (by unfold sm; omega)) ⟨(callB_of 1 hts (gG kw_907) rfl rfl rfl (hts _ (gw kw_13 rfl)) (hts _ (gw kw_905 rfl)) hd_X12_above ⟨Nat.le_of_ble_eq_true rfl, Nat.le_of_ble_eq_true rfl⟩), (hts _ (gw kw_906 rfl))⟩ ⟨fb_std, pre_std hPc hK hDc hN⟩ rfl rfl hl.1 rfl (lv_room (Nat.le_of_ble_eq_true rfl)) dX12_priceOf_17 ⟨Nat.le_of_ble_eq_true rfl, Nat.le_of_ble_eq_true rfl⟩) hS (fun q _ h => hFc q h) hFc (fun x_23 u9 t9 H1 locs ht hvm hw_23 hB hz1 hk1 hS => ?_)
    obtain ⟨hP1, hK1, hD1⟩ := hB
    rw [ht] at hP1
    clear hK1
    try dsimp only at hw_23
    have hpd9 : PDx (dC, dI) classes A H1 [oX12 g0 m_refused m_kind m_figure m_weight m_got m_setting (nI n) msy mdn m_tape m_letter m_letterAt m_told tp mat stm m_kept him ki crs m_price m_offer m_gets m_yes m_buys m_ends m_carried m_row rm m_keptRow m_likeGets m_likePrice m_ahead, cI aC m_kind 9 kf, cI aC m_figure 9 ff, cI aC m_setting 5 stf] := jn_N (wr := [oX12 g0 m_refused m_kind m_figure m_weight m_got m_setting (nI n) msy mdn m_tape m_letter m_letterAt m_told tp mat stm m_kept him ki crs m_price m_offer m_gets m_yes m_buys m_ends m_carried m_row rm m_keptRow m_likeGets m_likePrice m_ahead, cI aC m_kind 9 kf, cI aC m_figure 9 ff, cI aC m_setting 5 stf]) hFc hk1 hP1 hD1 hP hD [] [0, 1, 2, 3] rfl rfl (by decide) (by decide)
    have hP := hpd9.1
    have hD := hpd9.2
    clear hpd9
    generalize H1 = H at hP hS ⊢
    clear hPc hDc hFc hz1 hk1 hP1 hD1 ht hvm
    have h9 : x_23 = nI (ask (stf 2) s0) := by rw [hw_23]; unfold ask; rw [if_neg c_21]
    subst h9
    refine lv_istore_n (lv' := [(3, Value.int (nI (ask (stf 2) s0))), (0, Value.ref g0), (1, Value.int (nI j)), (2, Value.int (iI s0))]) hx hb dX12_priceOf_20 rfl hl (by decide) rfl (fun ls hl => ?_)
    refine lv_iload_n hx hb dX12_priceOf_21 rfl (lv_at hl 3 rfl) ?_
    refine lv_if_lt (tgt := 31) hx hb dX12_priceOf_22 (by decide) (fun c_24 => ?_) (fun c_24 => ?_)
    · refine lv_iload_n hx hb dX12_priceOf_31 rfl (lv_at hl 0 rfl) ?_
      refine lv_topi (fun x_25 e_25 => ?_)
      have h9 : x_25 = nI (env (stf 2) s0) := by rw [e_25]; unfold env; rw [if_neg (by rw [← iI_0, iI_lt (by unfold sm; omega) sm0] at c_24; omega)]
      subst h9
      refine lv_istore (lv' := [(4, Value.int (nI (env (stf 2) s0))), (3, Value.int (nI (ask (stf 2) s0))), (0, Value.ref g0), (1, Value.int (nI j)), (2, Value.int (iI s0))]) hx hb dX12_priceOf_32 hl (by decide) rfl (fun ls hl => ?_)
      exact jp_34   _ _ _ (hP.sub [0, 1, 2, 3] rfl) (hD.sub [0, 1, 2, 3] (by decide) rfl) hS (lv_sub hl [2, 3, 4, 1, 0] rfl)
    · refine lv_iload_n hx hb dX12_priceOf_25 rfl (lv_at hl 0 rfl) ?_
      refine lv_iconst (v := 1) hx hb dX12_priceOf_26 (by decide) ?_
      refine lv_iadd hx hb dX12_priceOf_27 ?_
      refine lv_topi (fun x_26 e_26 => ?_)
      refine lv_goto (tgt := 32) hx hb dX12_priceOf_28 (by decide) ?_
      have h9 : x_26 = nI (env (stf 2) s0) := by rw [e_26, nI_1]; unfold env; rw [if_pos (by rw [← iI_0, iI_lt (by unfold sm; omega) sm0] at c_24; omega)]
      subst h9
      refine lv_istore (lv' := [(4, Value.int (nI (env (stf 2) s0))), (3, Value.int (nI (ask (stf 2) s0))), (0, Value.ref g0), (1, Value.int (nI j)), (2, Value.int (iI s0))]) hx hb dX12_priceOf_32 hl (by decide) rfl (fun ls hl => ?_)
      exact jp_34   _ _ _ (hP.sub [0, 1, 2, 3] rfl) (hD.sub [0, 1, 2, 3] (by decide) rfl) hS (lv_sub hl [2, 3, 4, 1, 0] rfl)
  · refine lv_iload_n hx hb dX12_priceOf_10 rfl (lv_at hl 2 rfl) ?_
    refine lv_goto (tgt := 17) hx hb dX12_priceOf_11 (by decide) ?_
    have hpd9 := pdf_N (cx := []) hP hD hS hA [] (by decide) rfl
    have hPc := hpd9.1
    have hDc := hpd9.2.1
    have hFc := hpd9.2.2
    clear hpd9
    refine va_calli (va_runS (As := [Value.int (iI s0)]) (rest := []) ⟨hx, hb, hml, hown, hts⟩ (c_X12_above_z l dC dI aC H.size s0 (by unfold sm; omega)) ⟨(callB_of 1 hts (gG kw_907) rfl rfl rfl (hts _ (gw kw_13 rfl)) (hts _ (gw kw_905 rfl)) hd_X12_above ⟨Nat.le_of_ble_eq_true rfl, Nat.le_of_ble_eq_true rfl⟩), (hts _ (gw kw_906 rfl))⟩ ⟨fb_std, pre_std hPc hK hDc hN⟩ rfl rfl hl.1 rfl (lv_room (Nat.le_of_ble_eq_true rfl)) dX12_priceOf_17 ⟨Nat.le_of_ble_eq_true rfl, Nat.le_of_ble_eq_true rfl⟩) hS (fun q _ h => hFc q h) hFc (fun x_27 u9 t9 H1 locs ht hvm hw_27 hB hz1 hk1 hS => ?_)
    obtain ⟨hP1, hK1, hD1⟩ := hB
    rw [ht] at hP1
    clear hK1
    try dsimp only at hw_27
    have hpd9 : PDx (dC, dI) classes A H1 [oX12 g0 m_refused m_kind m_figure m_weight m_got m_setting (nI n) msy mdn m_tape m_letter m_letterAt m_told tp mat stm m_kept him ki crs m_price m_offer m_gets m_yes m_buys m_ends m_carried m_row rm m_keptRow m_likeGets m_likePrice m_ahead, cI aC m_kind 9 kf, cI aC m_figure 9 ff, cI aC m_setting 5 stf] := jn_N (wr := [oX12 g0 m_refused m_kind m_figure m_weight m_got m_setting (nI n) msy mdn m_tape m_letter m_letterAt m_told tp mat stm m_kept him ki crs m_price m_offer m_gets m_yes m_buys m_ends m_carried m_row rm m_keptRow m_likeGets m_likePrice m_ahead, cI aC m_kind 9 kf, cI aC m_figure 9 ff, cI aC m_setting 5 stf]) hFc hk1 hP1 hD1 hP hD [] [0, 1, 2, 3] rfl rfl (by decide) (by decide)
    have hP := hpd9.1
    have hD := hpd9.2
    clear hpd9
    generalize H1 = H at hP hS ⊢
    clear hPc hDc hFc hz1 hk1 hP1 hD1 ht hvm
    have h9 : x_27 = nI (ask (stf 2) s0) := by rw [hw_27]; unfold ask; rw [if_pos c_21]
    subst h9
    refine lv_istore_n (lv' := [(3, Value.int (nI (ask (stf 2) s0))), (0, Value.ref g0), (1, Value.int (nI j)), (2, Value.int (iI s0))]) hx hb dX12_priceOf_20 rfl hl (by decide) rfl (fun ls hl => ?_)
    refine lv_iload_n hx hb dX12_priceOf_21 rfl (lv_at hl 3 rfl) ?_
    refine lv_if_lt (tgt := 31) hx hb dX12_priceOf_22 (by decide) (fun c_28 => ?_) (fun c_28 => ?_)
    · refine lv_iload_n hx hb dX12_priceOf_31 rfl (lv_at hl 0 rfl) ?_
      refine lv_topi (fun x_29 e_29 => ?_)
      have h9 : x_29 = nI (env (stf 2) s0) := by rw [e_29]; unfold env; rw [if_neg (by rw [← iI_0, iI_lt (by unfold sm; omega) sm0] at c_28; omega)]
      subst h9
      refine lv_istore (lv' := [(4, Value.int (nI (env (stf 2) s0))), (3, Value.int (nI (ask (stf 2) s0))), (0, Value.ref g0), (1, Value.int (nI j)), (2, Value.int (iI s0))]) hx hb dX12_priceOf_32 hl (by decide) rfl (fun ls hl => ?_)
      exact jp_34   _ _ _ (hP.sub [0, 1, 2, 3] rfl) (hD.sub [0, 1, 2, 3] (by decide) rfl) hS (lv_sub hl [2, 3, 4, 1, 0] rfl)
    · refine lv_iload_n hx hb dX12_priceOf_25 rfl (lv_at hl 0 rfl) ?_
      refine lv_iconst (v := 1) hx hb dX12_priceOf_26 (by decide) ?_
      refine lv_iadd hx hb dX12_priceOf_27 ?_
      refine lv_topi (fun x_30 e_30 => ?_)
      refine lv_goto (tgt := 32) hx hb dX12_priceOf_28 (by decide) ?_
      have h9 : x_30 = nI (env (stf 2) s0) := by rw [e_30, nI_1]; unfold env; rw [if_pos (by rw [← iI_0, iI_lt (by unfold sm; omega) sm0] at c_28; omega)]
      subst h9
      refine lv_istore (lv' := [(4, Value.int (nI (env (stf 2) s0))), (3, Value.int (nI (ask (stf 2) s0))), (0, Value.ref g0), (1, Value.int (nI j)), (2, Value.int (iI s0))]) hx hb dX12_priceOf_32 hl (by decide) rfl (fun ls hl => ?_)
      exact jp_34   _ _ _ (hP.sub [0, 1, 2, 3] rfl) (hD.sub [0, 1, 2, 3] (by decide) rfl) hS (lv_sub hl [2, 3, 4, 1, 0] rfl)

set_option maxHeartbeats 1000000 in
set_option maxRecDepth 100000 in
/-- X12_costOf -/
theorem c_X12_costOf (l : Launch) (dC : Nat → ClassId) (dI : Nat → Nat → Nat) (aC : Nat → ClassId) (sz : Nat) (g0 : Nat) (m_refused : Nat) (m_kind : Nat) (m_figure : Nat) (m_weight : Nat) (m_got : Nat) (m_setting : Nat) (m_tape : Nat) (m_letter : Nat) (m_letterAt : Nat) (m_told : Nat) (m_kept : Nat) (m_price : Nat) (m_offer : Nat) (m_gets : Nat) (m_yes : Nat) (m_buys : Nat) (m_ends : Nat) (m_carried : Nat) (m_row : Nat) (m_keptRow : Nat) (m_likeGets : Nat) (m_likePrice : Nat) (m_ahead : Nat) (msy : Int32) (mdn : Int32) (tp : Int32) (mat : Int32) (stm : Int32) (him : Int32) (ki : Int32) (crs : Int32) (rm : Int32) (n : Nat) (pf : Nat → Int32) (Pq : Nat → Nat) (i : Nat) (y : Int32) (hi : i < n ∧ n ≤ 8) (hPq : ∀ q, i < q → q < n → pf (9 * i + q) = nI (Pq q) ∧ Pq q ≤ 110) : Met l yX12_costOf (wW yX12_costOf cX12_costOf 5 (some .int)) ({ frames := 0, cells := 0, slots := 0, locals := 0 } : Room) (va_Pc [Value.ref g0, Value.int (nI i), Value.int y] (fun U => U.heap.size = sz ∧ va_P (dC, dI) classes [oX12 g0 m_refused m_kind m_figure m_weight m_got m_setting (nI n) msy mdn m_tape m_letter m_letterAt m_told tp mat stm m_kept him ki crs m_price m_offer m_gets m_yes m_buys m_ends m_carried m_row rm m_keptRow m_likeGets m_likePrice m_ahead, cI aC m_price 81 pf] U.heap ∧ va_K (dC, dI) classes (TY aC) U ∧ va_D (fun _ => True) [oX12 g0 m_refused m_kind m_figure m_weight m_got m_setting (nI n) msy mdn m_tape m_letter m_letterAt m_told tp mat stm m_kept him ki crs m_price m_offer m_gets m_yes m_buys m_ends m_carried m_row rm m_keptRow m_likeGets m_likePrice m_ahead, cI aC m_price 81 pf] ∧ NX U)) (va_Qi (fun (r : Int32) (_ : Unit) => r = nI (yw Pq y (i + 1) (n - 1 - i))) (fun (_ : Unit) (t : State) => va_P (dC, dI) classes [oX12 g0 m_refused m_kind m_figure m_weight m_got m_setting (nI n) msy mdn m_tape m_letter m_letterAt m_told tp mat stm m_kept him ki crs m_price m_offer m_gets m_yes m_buys m_ends m_carried m_row rm m_keptRow m_likeGets m_likePrice m_ahead, cI aC m_price 81 pf] t.heap ∧ va_K (dC, dI) classes (TY aC) t ∧ va_D (va_A [oX12 g0 m_refused m_kind m_figure m_weight m_got m_setting (nI n) msy mdn m_tape m_letter m_letterAt m_told tp mat stm m_kept him ki crs m_price m_offer m_gets m_yes m_buys m_ends m_carried m_row rm m_keptRow m_likeGets m_likePrice m_ahead, cI aC m_price 81 pf] sz) [oX12 g0 m_refused m_kind m_figure m_weight m_got m_setting (nI n) msy mdn m_tape m_letter m_letterAt m_told tp mat stm m_kept him ki crs m_price m_offer m_gets m_yes m_buys m_ends m_carried m_row rm m_keptRow m_likeGets m_likePrice m_ahead, cI aC m_price 81 pf]) (va_A [oX12 g0 m_refused m_kind m_figure m_weight m_got m_setting (nI n) msy mdn m_tape m_letter m_letterAt m_told tp mat stm m_kept him ki crs m_price m_offer m_gets m_yes m_buys m_ends m_carried m_row rm m_keptRow m_likeGets m_likePrice m_ahead, cI aC m_price 81 pf] sz)) 0 0 (va_A [oX12 g0 m_refused m_kind m_figure m_weight m_got m_setting (nI n) msy mdn m_tape m_letter m_letterAt m_told tp mat stm m_kept him ki crs m_price m_offer m_gets m_yes m_buys m_ends m_carried m_row rm m_keptRow m_likeGets m_likePrice m_ahead, cI aC m_price 81 pf] sz) := by
  refine Met.ofW (cc := cX12_costOf) (maxL := 5) (ret := (some .int)) (by decide) rfl ?_
  intro p e s m args below meth c s₁ B hml hv
  obtain ⟨rfl, hsz, hP, hK, hD0, hN⟩ := hv
  have hx := B.exec
  have hb := B.bytes
  have hr := B.returns
  have hts0 := atoms_spec (ws := (wW yX12_costOf cX12_costOf 5 (some .int))) B.pre
  have hts : ∀ w9 ∈ lw_G, w9.before ([Value.ref g0, Value.int (nI i), Value.int y] : List Value).toArray s = true := fun w9 h9 => hts0 w9 (List.mem_cons_of_mem _ h9)
  have hown : s.vm.findClass RX12 = some m.cls := findClass_of_methodNamed (x := yX12_costOf) B.named
  have hlocks := B.notSynchronized
  subst hsz
  have hD := hD0.self (sz := s.heap.size)
  generalize hAe : va_A [oX12 g0 m_refused m_kind m_figure m_weight m_got m_setting (nI n) msy mdn m_tape m_letter m_letterAt m_told tp mat stm m_kept him ki crs m_price m_offer m_gets m_yes m_buys m_ends m_carried m_row rm m_keptRow m_likeGets m_likePrice m_ahead, cI aC m_price 81 pf] s.heap.size = A at hD ⊢
  have hA : ∀ q : Nat, s.heap.size ≤ q → A q := fun q h => by rw [← hAe]; exact Or.inr h
  obtain ⟨H, hHe⟩ : ∃ H : Heap, H = s.heap := ⟨_, rfl⟩
  have hS : va_S A s.heap H [] := by rw [hHe]; exact va_S.rf
  have hP : va_P (dC, dI) classes [oX12 g0 m_refused m_kind m_figure m_weight m_got m_setting (nI n) msy mdn m_tape m_letter m_letterAt m_told tp mat stm m_kept him ki crs m_price m_offer m_gets m_yes m_buys m_ends m_carried m_row rm m_keptRow m_likeGets m_likePrice m_ahead, cI aC m_price 81 pf] H := by rw [hHe]; exact hP
  have hl := lv_entry ([Value.ref g0, Value.int (nI i), Value.int y]) (n := 5) (Nat.le_of_ble_eq_true rfl)
  rw [lg_entry_eq]
  generalize (lg_sl ([Value.ref g0, Value.int (nI i), Value.int y]) ++ List.replicate (5 - (lg_sl ([Value.ref g0, Value.int (nI i), Value.int y])).length) Slot.unset).toArray = ls at hl ⊢
  have hl : lv_has ls 5 [(0, Value.ref g0), (1, Value.int (nI i)), (2, Value.int y)] := hl
  rw [← hHe]
  refine lv_iconst (v := 0) hx hb dX12_costOf_0 (by decide) ?_
  refine lv_topi (fun x_1 e_1 => ?_)
  have h9 : x_1 = nI (yw Pq y (i + 1) (i + 1 - (i + 1))) := by rw [e_1, Nat.sub_self]; rfl
  subst h9
  refine lv_istore_n (lv' := [(3, Value.int (nI (yw Pq y (i + 1) (i + 1 - (i + 1))))), (0, Value.ref g0), (1, Value.int (nI i)), (2, Value.int y)]) hx hb dX12_costOf_1 rfl hl (by decide) rfl (fun ls hl => ?_)
  refine lv_iload_n hx hb dX12_costOf_2 rfl (lv_at hl 2 rfl) ?_
  refine lv_iconst (v := 1) hx hb dX12_costOf_3 (by decide) ?_
  refine lv_iadd hx hb dX12_costOf_4 ?_
  refine lv_topi (fun x_2 e_2 => ?_)
  refine lv_istore (lv' := [(4, Value.int x_2), (3, Value.int (nI (yw Pq y (i + 1) (i + 1 - (i + 1))))), (0, Value.ref g0), (1, Value.int (nI i)), (2, Value.int y)]) hx hb dX12_costOf_5 hl (by decide) rfl (fun ls hl => ?_)
  have h9 : x_2 = nI (i + 1) := by rw [e_2, nI_1]
  subst h9
  have lp_7 : ∀ (fu : Nat) (j : Nat) (hfu : n - j < fu) (hj : i < j ∧ j ≤ n) (H : Heap) (locs : List Loc) (ls : Array Slot), va_P (dC, dI) classes [oX12 g0 m_refused m_kind m_figure m_weight m_got m_setting (nI n) msy mdn m_tape m_letter m_letterAt m_told tp mat stm m_kept him ki crs m_price m_offer m_gets m_yes m_buys m_ends m_carried m_row rm m_keptRow m_likeGets m_likePrice m_ahead, cI aC m_price 81 pf] H → va_D A [oX12 g0 m_refused m_kind m_figure m_weight m_got m_setting (nI n) msy mdn m_tape m_letter m_letterAt m_told tp mat stm m_kept him ki crs m_price m_offer m_gets m_yes m_buys m_ends m_carried m_row rm m_keptRow m_likeGets m_likePrice m_ahead, cI aC m_price 81 pf] → va_S A s.heap H locs → lv_has ls 5 [(0, Value.ref g0), (1, Value.int (nI i)), (2, Value.int y), (3, Value.int (nI (yw Pq y (i + 1) (j - (i + 1))))), (4, Value.int (nI j))] → W p l e (headSpec (wW yX12_costOf cX12_costOf 5 (some .int)) ({ frames := 0, cells := 0, slots := 0, locals := 0 } : Room)).room s m ([Value.ref g0, Value.int (nI i), Value.int y] : List Value).toArray below meth c H locs 0 0 (MQ below (va_Qi (fun (r : Int32) (_ : Unit) => r = nI (yw Pq y (i + 1) (n - 1 - i))) (fun (_ : Unit) (t : State) => va_P (dC, dI) classes [oX12 g0 m_refused m_kind m_figure m_weight m_got m_setting (nI n) msy mdn m_tape m_letter m_letterAt m_told tp mat stm m_kept him ki crs m_price m_offer m_gets m_yes m_buys m_ends m_carried m_row rm m_keptRow m_likeGets m_likePrice m_ahead, cI aC m_price 81 pf] t.heap ∧ va_K (dC, dI) classes (TY aC) t ∧ va_D A [oX12 g0 m_refused m_kind m_figure m_weight m_got m_setting (nI n) msy mdn m_tape m_letter m_letterAt m_told tp mat stm m_kept him ki crs m_price m_offer m_gets m_yes m_buys m_ends m_carried m_row rm m_keptRow m_likeGets m_likePrice m_ahead, cI aC m_price 81 pf]) A) ([Value.ref g0, Value.int (nI i), Value.int y] : List Value).toArray s 0 0 A) (F0 m 7 ls []) := by
    intro fu
    induction fu with
    | zero => intro j hfu; exact absurd hfu (Nat.not_lt_zero _)
    | succ fu ih_7 =>
      intro j hfu hj H locs ls hP hD hS hl
      refine lv_iload hx hb dX12_costOf_7 (lv_at hl 4 rfl) ?_
      refine lv_aload_n hx hb dX12_costOf_9 rfl (lv_at hl 0 rfl) ?_
      refine va_get (D := (dC, dI)) (ci := 12) (v := Value.int (nI n)) (C := RX12) (T := TX12) (N := 33) hx hb hts inX12 hown hK hP 0 rfl rfl 6 (by decide) (hts _ (gw kw_723 rfl)) (fun _ h9 => h9) rfl dX12_costOf_10 ?_
      refine lv_icmp_ge (tgt := 44) hx hb dX12_costOf_13 (by decide) (fun c_3 => ?_) (fun c_3 => ?_)
      · have hjn : j = n := by
          rcases Nat.lt_or_ge j n with q | q
          · exact absurd c_3 (nI_ge q (by omega))
          · omega
        refine lv_iload_n hx hb dX12_costOf_44 rfl (lv_at hl 3 rfl) ?_
        have hpd9 := pd_N (cx := [oX12 g0 m_refused m_kind m_figure m_weight m_got m_setting (nI n) msy mdn m_tape m_letter m_letterAt m_told tp mat stm m_kept him ki crs m_price m_offer m_gets m_yes m_buys m_ends m_carried m_row rm m_keptRow m_likeGets m_likePrice m_ahead, cI aC m_price 81 pf]) hP hD [0, 1] (by decide) rfl
        have hP9 := hpd9.1
        have hD9 := hpd9.2
        refine W.widen (k := 0) (n := 0) (by omega) (by omega) ?_
        exact W.iret (v := nI (yw Pq y (i + 1) (j - (i + 1)))) hx hb hr (fun t ht hW => ⟨⟨(nI (yw Pq y (i + 1) (j - (i + 1)))), (), rfl, by rw [hjn, show n - (i + 1) = n - 1 - i by omega], by rw [ht]; exact hP9, va_K.moved hW.alike hK, hD9⟩, hS.F ht⟩) hS.2.2 dX12_costOf_45
      · have hlt : j < n := by
          rcases Nat.lt_or_ge j n with q | q
          · exact q
          · exact absurd (nI_le q (by omega)) c_3
        refine lv_iload_n hx hb dX12_costOf_16 rfl (lv_at hl 3 rfl) ?_
        refine lv_iload_n hx hb dX12_costOf_17 rfl (lv_at hl 2 rfl) ?_
        refine lv_iload hx hb dX12_costOf_18 (lv_at hl 4 rfl) ?_
        refine lv_ishr hx hb dX12_costOf_20 ?_
        refine lv_topi (fun x_4 e_4 => ?_)
        refine lv_iconst (v := 1) hx hb dX12_costOf_21 (by decide) ?_
        refine lv_iand hx hb dX12_costOf_22 ?_
        refine lv_topi (fun x_5 e_5 => ?_)
        refine lv_aload_n hx hb dX12_costOf_23 rfl (lv_at hl 0 rfl) ?_
        refine va_get (D := (dC, dI)) (ci := 12) (v := Value.ref m_price) (C := RX12) (T := TX12) (N := 33) hx hb hts inX12 hown hK hP 0 rfl rfl 20 (by decide) (hts _ (gw kw_737 rfl)) (fun _ h9 => h9) rfl dX12_costOf_24 ?_
        refine lv_bipush (v := 9) hx hb dX12_costOf_27 (by decide) ?_
        refine lv_iload_n hx hb dX12_costOf_29 rfl (lv_at hl 1 rfl) ?_
        refine lv_imul hx hb dX12_costOf_30 ?_
        refine lv_topi (fun x_6 e_6 => ?_)
        have h9 : x_6 = nI (9 * i) := by rw [e_6]; exact pk_mul 9 i
        subst h9
        refine lv_iload hx hb dX12_costOf_31 (lv_at hl 4 rfl) ?_
        refine lv_iadd hx hb dX12_costOf_33 ?_
        refine lv_topi (fun x_7 e_7 => ?_)
        have h9 : x_7 = nI (9 * i + j) := by rw [e_7, nI_add]
        subst h9
        have h_8 : vp_in (nI (9 * i + j)) 81 := by first | exact vp_in_nI (by omega) (by omega) | (unfold vp_in; decide) | (subst_vars; first | (unfold vp_in; decide) | exact vp_in_nI (by omega) (by omega))
        refine va_iald hx hb hK hP 1 0 rfl rfl h_8 dX12_costOf_34 ?_
        refine lv_topi (fun x_9 e_9 => ?_)
        have h9 : x_9 = nI (Pq j) := by rw [e_9, nI_clamp (by omega)]; exact (hPq j hj.1 hlt).1
        subst h9
        refine lv_imul hx hb dX12_costOf_35 ?_
        refine lv_topi (fun x_10 e_10 => ?_)
        have h9 : x_10 = nI (if bt y j = true then Pq j else 0) := by rw [e_10, e_5, e_4]; exact b_mul (by omega)
        subst h9
        refine lv_iadd hx hb dX12_costOf_36 ?_
        refine lv_topi (fun x_11 e_11 => ?_)
        have h9 : x_11 = nI (yw Pq y (i + 1) (j + 1 - (i + 1))) := by rw [e_11, nI_add, yw_suc hj.1]
        subst h9
        refine lv_istore_n (lv' := [(3, Value.int (nI (yw Pq y (i + 1) (j + 1 - (i + 1))))), (0, Value.ref g0), (1, Value.int (nI i)), (2, Value.int y), (4, Value.int (nI j))]) hx hb dX12_costOf_37 rfl hl (by decide) rfl (fun ls hl => ?_)
        obtain ⟨x_12, e_12⟩ : ∃ y : Int32, y = (nI j) + 1 := ⟨_, rfl⟩
        refine lv_iinc (v := x_12) (lv' := [(4, Value.int x_12), (3, Value.int (nI (yw Pq y (i + 1) (j + 1 - (i + 1))))), (0, Value.ref g0), (1, Value.int (nI i)), (2, Value.int y)]) hx hb dX12_costOf_38 hl (k := 4) rfl (by rw [e_12]; rfl) (by decide) rfl (fun ls hl => ?_)
        have h9 : x_12 = nI (j + 1) := by rw [e_12, nI_1]
        subst h9
        refine lv_goto (tgt := 7) hx hb dX12_costOf_41 (by decide) ?_
        exact ih_7 (j + 1) (ms_lt hlt hfu) (by omega) _ _ _ (hP.sub [0, 1] rfl) (hD.sub [0, 1] (by decide) rfl) hS (lv_sub hl [2, 3, 4, 1, 0] rfl)
  exact lp_7 ((n - (i + 1)) + 1) (i + 1) (Nat.lt_succ_self _) (by omega) _ _ _ (hP.sub [0, 1] rfl) (hD.sub [0, 1] (by decide) rfl) hS (lv_sub hl [2, 3, 4, 1, 0] rfl)

set_option maxHeartbeats 1000000 in
set_option maxRecDepth 100000 in
/-- X12_unbought -/
theorem c_X12_unbought (l : Launch) (dC : Nat → ClassId) (dI : Nat → Nat → Nat) (aC : Nat → ClassId) (sz : Nat) (g0 : Nat) (m_refused : Nat) (m_kind : Nat) (m_figure : Nat) (m_weight : Nat) (m_got : Nat) (m_setting : Nat) (m_tape : Nat) (m_letter : Nat) (m_letterAt : Nat) (m_told : Nat) (m_kept : Nat) (m_price : Nat) (m_offer : Nat) (m_gets : Nat) (m_yes : Nat) (m_buys : Nat) (m_ends : Nat) (m_carried : Nat) (m_row : Nat) (m_keptRow : Nat) (m_likeGets : Nat) (m_likePrice : Nat) (m_ahead : Nat) (msy : Int32) (mdn : Int32) (tp : Int32) (mat : Int32) (stm : Int32) (him : Int32) (ki : Int32) (crs : Int32) (rm : Int32) (n : Nat) (pf : Nat → Int32) (Pq : Nat → Nat) (i : Nat) (hi : i < n ∧ n ≤ 8) (hPq : ∀ q, i < q → q < n → pf (9 * i + q) = nI (Pq q) ∧ Pq q ≤ 110) : Met l yX12_unbought (wW yX12_unbought cX12_unbought 4 (some .int)) ({ frames := 0, cells := 0, slots := 0, locals := 0 } : Room) (va_Pc [Value.ref g0, Value.int (nI i)] (fun U => U.heap.size = sz ∧ va_P (dC, dI) classes [oX12 g0 m_refused m_kind m_figure m_weight m_got m_setting (nI n) msy mdn m_tape m_letter m_letterAt m_told tp mat stm m_kept him ki crs m_price m_offer m_gets m_yes m_buys m_ends m_carried m_row rm m_keptRow m_likeGets m_likePrice m_ahead, cI aC m_price 81 pf] U.heap ∧ va_K (dC, dI) classes (TY aC) U ∧ va_D (fun _ => True) [oX12 g0 m_refused m_kind m_figure m_weight m_got m_setting (nI n) msy mdn m_tape m_letter m_letterAt m_told tp mat stm m_kept him ki crs m_price m_offer m_gets m_yes m_buys m_ends m_carried m_row rm m_keptRow m_likeGets m_likePrice m_ahead, cI aC m_price 81 pf] ∧ NX U)) (va_Qi (fun (r : Int32) (_ : Unit) => ∀ b, b < 32 → bt r b = decide (i < b ∧ b < n ∧ Pq b = 0)) (fun (_ : Unit) (t : State) => va_P (dC, dI) classes [oX12 g0 m_refused m_kind m_figure m_weight m_got m_setting (nI n) msy mdn m_tape m_letter m_letterAt m_told tp mat stm m_kept him ki crs m_price m_offer m_gets m_yes m_buys m_ends m_carried m_row rm m_keptRow m_likeGets m_likePrice m_ahead, cI aC m_price 81 pf] t.heap ∧ va_K (dC, dI) classes (TY aC) t ∧ va_D (va_A [oX12 g0 m_refused m_kind m_figure m_weight m_got m_setting (nI n) msy mdn m_tape m_letter m_letterAt m_told tp mat stm m_kept him ki crs m_price m_offer m_gets m_yes m_buys m_ends m_carried m_row rm m_keptRow m_likeGets m_likePrice m_ahead, cI aC m_price 81 pf] sz) [oX12 g0 m_refused m_kind m_figure m_weight m_got m_setting (nI n) msy mdn m_tape m_letter m_letterAt m_told tp mat stm m_kept him ki crs m_price m_offer m_gets m_yes m_buys m_ends m_carried m_row rm m_keptRow m_likeGets m_likePrice m_ahead, cI aC m_price 81 pf]) (va_A [oX12 g0 m_refused m_kind m_figure m_weight m_got m_setting (nI n) msy mdn m_tape m_letter m_letterAt m_told tp mat stm m_kept him ki crs m_price m_offer m_gets m_yes m_buys m_ends m_carried m_row rm m_keptRow m_likeGets m_likePrice m_ahead, cI aC m_price 81 pf] sz)) 0 0 (va_A [oX12 g0 m_refused m_kind m_figure m_weight m_got m_setting (nI n) msy mdn m_tape m_letter m_letterAt m_told tp mat stm m_kept him ki crs m_price m_offer m_gets m_yes m_buys m_ends m_carried m_row rm m_keptRow m_likeGets m_likePrice m_ahead, cI aC m_price 81 pf] sz) := by
  refine Met.ofW (cc := cX12_unbought) (maxL := 4) (ret := (some .int)) (by decide) rfl ?_
  intro p e s m args below meth c s₁ B hml hv
  obtain ⟨rfl, hsz, hP, hK, hD0, hN⟩ := hv
  have hx := B.exec
  have hb := B.bytes
  have hr := B.returns
  have hts0 := atoms_spec (ws := (wW yX12_unbought cX12_unbought 4 (some .int))) B.pre
  have hts : ∀ w9 ∈ lw_G, w9.before ([Value.ref g0, Value.int (nI i)] : List Value).toArray s = true := fun w9 h9 => hts0 w9 (List.mem_cons_of_mem _ h9)
  have hown : s.vm.findClass RX12 = some m.cls := findClass_of_methodNamed (x := yX12_unbought) B.named
  have hlocks := B.notSynchronized
  subst hsz
  have hD := hD0.self (sz := s.heap.size)
  generalize hAe : va_A [oX12 g0 m_refused m_kind m_figure m_weight m_got m_setting (nI n) msy mdn m_tape m_letter m_letterAt m_told tp mat stm m_kept him ki crs m_price m_offer m_gets m_yes m_buys m_ends m_carried m_row rm m_keptRow m_likeGets m_likePrice m_ahead, cI aC m_price 81 pf] s.heap.size = A at hD ⊢
  have hA : ∀ q : Nat, s.heap.size ≤ q → A q := fun q h => by rw [← hAe]; exact Or.inr h
  obtain ⟨H, hHe⟩ : ∃ H : Heap, H = s.heap := ⟨_, rfl⟩
  have hS : va_S A s.heap H [] := by rw [hHe]; exact va_S.rf
  have hP : va_P (dC, dI) classes [oX12 g0 m_refused m_kind m_figure m_weight m_got m_setting (nI n) msy mdn m_tape m_letter m_letterAt m_told tp mat stm m_kept him ki crs m_price m_offer m_gets m_yes m_buys m_ends m_carried m_row rm m_keptRow m_likeGets m_likePrice m_ahead, cI aC m_price 81 pf] H := by rw [hHe]; exact hP
  have hl := lv_entry ([Value.ref g0, Value.int (nI i)]) (n := 4) (Nat.le_of_ble_eq_true rfl)
  rw [lg_entry_eq]
  generalize (lg_sl ([Value.ref g0, Value.int (nI i)]) ++ List.replicate (4 - (lg_sl ([Value.ref g0, Value.int (nI i)])).length) Slot.unset).toArray = ls at hl ⊢
  have hl : lv_has ls 4 [(0, Value.ref g0), (1, Value.int (nI i))] := hl
  rw [← hHe]
  refine lv_iconst (v := 0) hx hb dX12_unbought_0 (by decide) ?_
  refine lv_istore_n (lv' := [(2, Value.int 0), (0, Value.ref g0), (1, Value.int (nI i))]) hx hb dX12_unbought_1 rfl hl (by decide) rfl (fun ls hl => ?_)
  refine lv_iload_n hx hb dX12_unbought_2 rfl (lv_at hl 2 rfl) ?_
  refine lv_iconst (v := 1) hx hb dX12_unbought_3 (by decide) ?_
  refine lv_iadd hx hb dX12_unbought_4 ?_
  refine lv_topi (fun x_1 e_1 => ?_)
  refine lv_istore_n (lv' := [(3, Value.int x_1), (2, Value.int 0), (0, Value.ref g0), (1, Value.int (nI i))]) hx hb dX12_unbought_5 rfl hl (by decide) rfl (fun ls hl => ?_)
  have h9 : x_1 = nI (i + 1) := by rw [e_1, nI_1]
  subst h9
  have lp_6 : ∀ (fu : Nat) (j : Nat) (x2 : Int32) (hfu : n - j < fu) (hj : i < j ∧ j ≤ n) (hx2 : ∀ b, b < 32 → bt x2 b = decide (i < b ∧ b < j ∧ Pq b = 0)) (H : Heap) (locs : List Loc) (ls : Array Slot), va_P (dC, dI) classes [oX12 g0 m_refused m_kind m_figure m_weight m_got m_setting (nI n) msy mdn m_tape m_letter m_letterAt m_told tp mat stm m_kept him ki crs m_price m_offer m_gets m_yes m_buys m_ends m_carried m_row rm m_keptRow m_likeGets m_likePrice m_ahead, cI aC m_price 81 pf] H → va_D A [oX12 g0 m_refused m_kind m_figure m_weight m_got m_setting (nI n) msy mdn m_tape m_letter m_letterAt m_told tp mat stm m_kept him ki crs m_price m_offer m_gets m_yes m_buys m_ends m_carried m_row rm m_keptRow m_likeGets m_likePrice m_ahead, cI aC m_price 81 pf] → va_S A s.heap H locs → lv_has ls 4 [(0, Value.ref g0), (1, Value.int (nI i)), (2, Value.int x2), (3, Value.int (nI j))] → W p l e (headSpec (wW yX12_unbought cX12_unbought 4 (some .int)) ({ frames := 0, cells := 0, slots := 0, locals := 0 } : Room)).room s m ([Value.ref g0, Value.int (nI i)] : List Value).toArray below meth c H locs 0 0 (MQ below (va_Qi (fun (r : Int32) (_ : Unit) => ∀ b, b < 32 → bt r b = decide (i < b ∧ b < n ∧ Pq b = 0)) (fun (_ : Unit) (t : State) => va_P (dC, dI) classes [oX12 g0 m_refused m_kind m_figure m_weight m_got m_setting (nI n) msy mdn m_tape m_letter m_letterAt m_told tp mat stm m_kept him ki crs m_price m_offer m_gets m_yes m_buys m_ends m_carried m_row rm m_keptRow m_likeGets m_likePrice m_ahead, cI aC m_price 81 pf] t.heap ∧ va_K (dC, dI) classes (TY aC) t ∧ va_D A [oX12 g0 m_refused m_kind m_figure m_weight m_got m_setting (nI n) msy mdn m_tape m_letter m_letterAt m_told tp mat stm m_kept him ki crs m_price m_offer m_gets m_yes m_buys m_ends m_carried m_row rm m_keptRow m_likeGets m_likePrice m_ahead, cI aC m_price 81 pf]) A) ([Value.ref g0, Value.int (nI i)] : List Value).toArray s 0 0 A) (F0 m 6 ls []) := by
    intro fu
    induction fu with
    | zero => intro j x2 hfu; exact absurd hfu (Nat.not_lt_zero _)
    | succ fu ih_6 =>
      intro j x2 hfu hj hx2 H locs ls hP hD hS hl
      refine lv_iload_n hx hb dX12_unbought_6 rfl (lv_at hl 3 rfl) ?_
      refine lv_aload_n hx hb dX12_unbought_7 rfl (lv_at hl 0 rfl) ?_
      refine va_get (D := (dC, dI)) (ci := 12) (v := Value.int (nI n)) (C := RX12) (T := TX12) (N := 33) hx hb hts inX12 hown hK hP 0 rfl rfl 6 (by decide) (hts _ (gw kw_723 rfl)) (fun _ h9 => h9) rfl dX12_unbought_8 ?_
      refine lv_icmp_ge (tgt := 44) hx hb dX12_unbought_11 (by decide) (fun c_2 => ?_) (fun c_2 => ?_)
      · have hjn : j = n := by
          rcases Nat.lt_or_ge j n with q | q
          · exact absurd c_2 (nI_ge q (by omega))
          · omega
        refine lv_iload_n hx hb dX12_unbought_44 rfl (lv_at hl 2 rfl) ?_
        have hpd9 := pd_N (cx := [oX12 g0 m_refused m_kind m_figure m_weight m_got m_setting (nI n) msy mdn m_tape m_letter m_letterAt m_told tp mat stm m_kept him ki crs m_price m_offer m_gets m_yes m_buys m_ends m_carried m_row rm m_keptRow m_likeGets m_likePrice m_ahead, cI aC m_price 81 pf]) hP hD [0, 1] (by decide) rfl
        have hP9 := hpd9.1
        have hD9 := hpd9.2
        refine W.widen (k := 0) (n := 0) (by omega) (by omega) ?_
        exact W.iret (v := x2) hx hb hr (fun t ht hW => ⟨⟨x2, (), rfl, fun b hb => by rw [hx2 b hb, hjn], by rw [ht]; exact hP9, va_K.moved hW.alike hK, hD9⟩, hS.F ht⟩) hS.2.2 dX12_unbought_45
      · have hlt : j < n := by
          rcases Nat.lt_or_ge j n with q | q
          · exact q
          · exact absurd (nI_le q (by omega)) c_2
        obtain ⟨hp1, hp2⟩ := hPq j hj.1 hlt
        refine lv_iload_n hx hb dX12_unbought_14 rfl (lv_at hl 2 rfl) ?_
        refine lv_aload_n hx hb dX12_unbought_15 rfl (lv_at hl 0 rfl) ?_
        refine va_get (D := (dC, dI)) (ci := 12) (v := Value.ref m_price) (C := RX12) (T := TX12) (N := 33) hx hb hts inX12 hown hK hP 0 rfl rfl 20 (by decide) (hts _ (gw kw_737 rfl)) (fun _ h9 => h9) rfl dX12_unbought_16 ?_
        refine lv_bipush (v := 9) hx hb dX12_unbought_19 (by decide) ?_
        refine lv_iload_n hx hb dX12_unbought_21 rfl (lv_at hl 1 rfl) ?_
        refine lv_imul hx hb dX12_unbought_22 ?_
        refine lv_topi (fun x_3 e_3 => ?_)
        have h9 : x_3 = nI (9 * i) := by rw [e_3]; exact pk_mul 9 i
        subst h9
        refine lv_iload_n hx hb dX12_unbought_23 rfl (lv_at hl 3 rfl) ?_
        refine lv_iadd hx hb dX12_unbought_24 ?_
        refine lv_topi (fun x_4 e_4 => ?_)
        have h9 : x_4 = nI (9 * i + j) := by rw [e_4, nI_add]
        subst h9
        have h_5 : vp_in (nI (9 * i + j)) 81 := by first | exact vp_in_nI (by omega) (by omega) | (unfold vp_in; decide) | (subst_vars; first | (unfold vp_in; decide) | exact vp_in_nI (by omega) (by omega))
        refine va_iald hx hb hK hP 1 0 rfl rfl h_5 dX12_unbought_25 ?_
        refine lv_topi (fun x_6 e_6 => ?_)
        have h9 : x_6 = nI (Pq j) := by rw [e_6, nI_clamp (by omega)]; exact hp1
        subst h9
        refine lv_if_ne (tgt := 35) hx hb dX12_unbought_26 (by decide) (fun c_7 => ?_) (fun c_7 => ?_)
        · refine lv_iconst (v := 0) hx hb dX12_unbought_35 (by decide) ?_
          refine lv_ior hx hb dX12_unbought_36 ?_
          refine lv_topi (fun x_8 e_8 => ?_)
          have hub : ¬ Pq j = 0 := fun q => c_7 (by rw [q]; rfl)
          have hb1 := ub_n hx2 e_8 hub
          refine lv_istore_n (lv' := [(2, Value.int x_8), (0, Value.ref g0), (1, Value.int (nI i)), (3, Value.int (nI j))]) hx hb dX12_unbought_37 rfl hl (by decide) rfl (fun ls hl => ?_)
          obtain ⟨x_9, e_9⟩ : ∃ y : Int32, y = (nI j) + 1 := ⟨_, rfl⟩
          refine lv_iinc (v := x_9) (lv' := [(3, Value.int x_9), (2, Value.int x_8), (0, Value.ref g0), (1, Value.int (nI i))]) hx hb dX12_unbought_38 hl (k := 3) rfl (by rw [e_9]; rfl) (by decide) rfl (fun ls hl => ?_)
          have h9 : x_9 = nI (j + 1) := by rw [e_9, nI_1]
          subst h9
          refine lv_goto (tgt := 6) hx hb dX12_unbought_41 (by decide) ?_
          exact ih_6 (j + 1) x_8 (ms_lt hlt hfu) (by omega) (hb1) _ _ _ (hP.sub [0, 1] rfl) (hD.sub [0, 1] (by decide) rfl) hS (lv_sub hl [2, 3, 1, 0] rfl)
        · refine lv_iconst (v := 1) hx hb dX12_unbought_29 (by decide) ?_
          refine lv_iload_n hx hb dX12_unbought_30 rfl (lv_at hl 3 rfl) ?_
          refine lv_ishl hx hb dX12_unbought_31 ?_
          refine lv_topi (fun x_10 e_10 => ?_)
          refine lv_goto (tgt := 36) hx hb dX12_unbought_32 (by decide) ?_
          refine lv_ior hx hb dX12_unbought_36 ?_
          refine lv_topi (fun x_11 e_11 => ?_)
          have hub : Pq j = 0 := (nI_eq (a := Pq j) (b := 0) (by omega) (by omega)).mp c_7
          have hb1 := ub_y (by omega) hx2 (e_11.trans (by rw [e_10])) hub
          refine lv_istore_n (lv' := [(2, Value.int x_11), (0, Value.ref g0), (1, Value.int (nI i)), (3, Value.int (nI j))]) hx hb dX12_unbought_37 rfl hl (by decide) rfl (fun ls hl => ?_)
          obtain ⟨x_12, e_12⟩ : ∃ y : Int32, y = (nI j) + 1 := ⟨_, rfl⟩
          refine lv_iinc (v := x_12) (lv' := [(3, Value.int x_12), (2, Value.int x_11), (0, Value.ref g0), (1, Value.int (nI i))]) hx hb dX12_unbought_38 hl (k := 3) rfl (by rw [e_12]; rfl) (by decide) rfl (fun ls hl => ?_)
          have h9 : x_12 = nI (j + 1) := by rw [e_12, nI_1]
          subst h9
          refine lv_goto (tgt := 6) hx hb dX12_unbought_41 (by decide) ?_
          exact ih_6 (j + 1) x_11 (ms_lt hlt hfu) (by omega) (hb1) _ _ _ (hP.sub [0, 1] rfl) (hD.sub [0, 1] (by decide) rfl) hS (lv_sub hl [2, 3, 1, 0] rfl)
  exact lp_6 ((n - (i + 1)) + 1) (i + 1) 0 (Nat.lt_succ_self _) (by omega) (fun b hb => by rw [b_0, decide_eq_false (by omega)]) _ _ _ (hP.sub [0, 1] rfl) (hD.sub [0, 1] (by decide) rfl) hS (lv_sub hl [2, 3, 1, 0] rfl)

set_option maxHeartbeats 1000000 in
set_option maxRecDepth 100000 in
/-- X12_isAhead -/
theorem c_X12_isAhead (l : Launch) (dC : Nat → ClassId) (dI : Nat → Nat → Nat) (aC : Nat → ClassId) (sz : Nat) (g0 : Nat) (m_refused : Nat) (m_kind : Nat) (m_figure : Nat) (m_weight : Nat) (m_got : Nat) (m_setting : Nat) (m_tape : Nat) (m_letter : Nat) (m_letterAt : Nat) (m_told : Nat) (m_kept : Nat) (m_price : Nat) (m_offer : Nat) (m_gets : Nat) (m_yes : Nat) (m_buys : Nat) (m_ends : Nat) (m_carried : Nat) (m_row : Nat) (m_keptRow : Nat) (m_likeGets : Nat) (m_likePrice : Nat) (m_ahead : Nat) (msy : Int32) (mdn : Int32) (tp : Int32) (mat : Int32) (stm : Int32) (him : Int32) (ki : Int32) (crs : Int32) (rm : Int32) (n : Nat) (stf : Nat → Int32) (i : Nat) (a0 : Nat) (z0 : Nat) (hi : i < n ∧ n ≤ 8) (ha : a0 < 2 ^ n ∧ BND n i a0) (hz : z0 < 2 ^ n ∧ BND n i z0) : Met l yX12_isAhead (wW yX12_isAhead cX12_isAhead 6 (some .boolean)) ({ frames := 0, cells := 0, slots := 0, locals := 0 } : Room) (va_Pc [Value.ref g0, Value.int (nI a0), Value.int (nI z0)] (fun U => U.heap.size = sz ∧ va_P (dC, dI) classes [oX12 g0 m_refused m_kind m_figure m_weight m_got m_setting (nI n) msy mdn m_tape m_letter m_letterAt m_told tp mat stm m_kept him ki crs m_price m_offer m_gets m_yes m_buys m_ends m_carried m_row rm m_keptRow m_likeGets m_likePrice m_ahead, cI aC m_setting 5 stf] U.heap ∧ va_K (dC, dI) classes (TY aC) U ∧ va_D (fun _ => True) [oX12 g0 m_refused m_kind m_figure m_weight m_got m_setting (nI n) msy mdn m_tape m_letter m_letterAt m_told tp mat stm m_kept him ki crs m_price m_offer m_gets m_yes m_buys m_ends m_carried m_row rm m_keptRow m_likeGets m_likePrice m_ahead, cI aC m_setting 5 stf] ∧ NX U)) (va_Qi (fun (r : Int32) (_ : Unit) => r = if us (stf 3) n i z0 < us (stf 3) n i a0 then 1 else 0) (fun (_ : Unit) (t : State) => va_P (dC, dI) classes [oX12 g0 m_refused m_kind m_figure m_weight m_got m_setting (nI n) msy mdn m_tape m_letter m_letterAt m_told tp mat stm m_kept him ki crs m_price m_offer m_gets m_yes m_buys m_ends m_carried m_row rm m_keptRow m_likeGets m_likePrice m_ahead, cI aC m_setting 5 stf] t.heap ∧ va_K (dC, dI) classes (TY aC) t ∧ va_D (va_A [oX12 g0 m_refused m_kind m_figure m_weight m_got m_setting (nI n) msy mdn m_tape m_letter m_letterAt m_told tp mat stm m_kept him ki crs m_price m_offer m_gets m_yes m_buys m_ends m_carried m_row rm m_keptRow m_likeGets m_likePrice m_ahead, cI aC m_setting 5 stf] sz) [oX12 g0 m_refused m_kind m_figure m_weight m_got m_setting (nI n) msy mdn m_tape m_letter m_letterAt m_told tp mat stm m_kept him ki crs m_price m_offer m_gets m_yes m_buys m_ends m_carried m_row rm m_keptRow m_likeGets m_likePrice m_ahead, cI aC m_setting 5 stf]) (va_A [oX12 g0 m_refused m_kind m_figure m_weight m_got m_setting (nI n) msy mdn m_tape m_letter m_letterAt m_told tp mat stm m_kept him ki crs m_price m_offer m_gets m_yes m_buys m_ends m_carried m_row rm m_keptRow m_likeGets m_likePrice m_ahead, cI aC m_setting 5 stf] sz)) 0 0 (va_A [oX12 g0 m_refused m_kind m_figure m_weight m_got m_setting (nI n) msy mdn m_tape m_letter m_letterAt m_told tp mat stm m_kept him ki crs m_price m_offer m_gets m_yes m_buys m_ends m_carried m_row rm m_keptRow m_likeGets m_likePrice m_ahead, cI aC m_setting 5 stf] sz) := by
  refine Met.ofW (cc := cX12_isAhead) (maxL := 6) (ret := (some .boolean)) (by decide) rfl ?_
  intro p e s m args below meth c s₁ B hml hv
  obtain ⟨rfl, hsz, hP, hK, hD0, hN⟩ := hv
  have hx := B.exec
  have hb := B.bytes
  have hr := B.returns
  have hts0 := atoms_spec (ws := (wW yX12_isAhead cX12_isAhead 6 (some .boolean))) B.pre
  have hts : ∀ w9 ∈ lw_G, w9.before ([Value.ref g0, Value.int (nI a0), Value.int (nI z0)] : List Value).toArray s = true := fun w9 h9 => hts0 w9 (List.mem_cons_of_mem _ h9)
  have hown : s.vm.findClass RX12 = some m.cls := findClass_of_methodNamed (x := yX12_isAhead) B.named
  have hlocks := B.notSynchronized
  subst hsz
  have hD := hD0.self (sz := s.heap.size)
  generalize hAe : va_A [oX12 g0 m_refused m_kind m_figure m_weight m_got m_setting (nI n) msy mdn m_tape m_letter m_letterAt m_told tp mat stm m_kept him ki crs m_price m_offer m_gets m_yes m_buys m_ends m_carried m_row rm m_keptRow m_likeGets m_likePrice m_ahead, cI aC m_setting 5 stf] s.heap.size = A at hD ⊢
  have hA : ∀ q : Nat, s.heap.size ≤ q → A q := fun q h => by rw [← hAe]; exact Or.inr h
  obtain ⟨H, hHe⟩ : ∃ H : Heap, H = s.heap := ⟨_, rfl⟩
  have hS : va_S A s.heap H [] := by rw [hHe]; exact va_S.rf
  have hP : va_P (dC, dI) classes [oX12 g0 m_refused m_kind m_figure m_weight m_got m_setting (nI n) msy mdn m_tape m_letter m_letterAt m_told tp mat stm m_kept him ki crs m_price m_offer m_gets m_yes m_buys m_ends m_carried m_row rm m_keptRow m_likeGets m_likePrice m_ahead, cI aC m_setting 5 stf] H := by rw [hHe]; exact hP
  have hl := lv_entry ([Value.ref g0, Value.int (nI a0), Value.int (nI z0)]) (n := 6) (Nat.le_of_ble_eq_true rfl)
  rw [lg_entry_eq]
  generalize (lg_sl ([Value.ref g0, Value.int (nI a0), Value.int (nI z0)]) ++ List.replicate (6 - (lg_sl ([Value.ref g0, Value.int (nI a0), Value.int (nI z0)])).length) Slot.unset).toArray = ls at hl ⊢
  have hl : lv_has ls 6 [(0, Value.ref g0), (1, Value.int (nI a0)), (2, Value.int (nI z0))] := hl
  rw [← hHe]
  have h256 := p28 hi.2
  refine lv_iload_n hx hb dX12_isAhead_0 rfl (lv_at hl 1 rfl) ?_
  refine lv_iload_n hx hb dX12_isAhead_1 rfl (lv_at hl 2 rfl) ?_
  refine lv_ixor hx hb dX12_isAhead_2 ?_
  refine lv_topi (fun x_1 e_1 => ?_)
  refine lv_istore_n (lv' := [(3, Value.int x_1), (0, Value.ref g0), (1, Value.int (nI a0)), (2, Value.int (nI z0))]) hx hb dX12_isAhead_3 rfl hl (by decide) rfl (fun ls hl => ?_)
  refine lv_iconst (v := 0) hx hb dX12_isAhead_4 (by decide) ?_
  refine lv_istore (lv' := [(4, Value.int 0), (3, Value.int x_1), (0, Value.ref g0), (1, Value.int (nI a0)), (2, Value.int (nI z0))]) hx hb dX12_isAhead_5 hl (by decide) rfl (fun ls hl => ?_)
  have lp_7 : ∀ (fu : Nat) (k : Nat) (x3 : Int32) (hfu : n - k < fu) (hk : k ≤ n) (hx3 : ∀ b, b < 31 → bt x3 b = (a0.testBit b ^^ z0.testBit b)) (hag : ∀ p, (if stf 3 = 0 then p < k else n - 1 - k + 1 ≤ p) → p < n → a0.testBit p = z0.testBit p) (H : Heap) (locs : List Loc) (ls : Array Slot), va_P (dC, dI) classes [oX12 g0 m_refused m_kind m_figure m_weight m_got m_setting (nI n) msy mdn m_tape m_letter m_letterAt m_told tp mat stm m_kept him ki crs m_price m_offer m_gets m_yes m_buys m_ends m_carried m_row rm m_keptRow m_likeGets m_likePrice m_ahead, cI aC m_setting 5 stf] H → va_D A [oX12 g0 m_refused m_kind m_figure m_weight m_got m_setting (nI n) msy mdn m_tape m_letter m_letterAt m_told tp mat stm m_kept him ki crs m_price m_offer m_gets m_yes m_buys m_ends m_carried m_row rm m_keptRow m_likeGets m_likePrice m_ahead, cI aC m_setting 5 stf] → va_S A s.heap H locs → lv_has ls 6 [(0, Value.ref g0), (1, Value.int (nI a0)), (2, Value.int (nI z0)), (3, Value.int x3), (4, Value.int (nI k))] → W p l e (headSpec (wW yX12_isAhead cX12_isAhead 6 (some .boolean)) ({ frames := 0, cells := 0, slots := 0, locals := 0 } : Room)).room s m ([Value.ref g0, Value.int (nI a0), Value.int (nI z0)] : List Value).toArray below meth c H locs 0 0 (MQ below (va_Qi (fun (r : Int32) (_ : Unit) => r = if us (stf 3) n i z0 < us (stf 3) n i a0 then 1 else 0) (fun (_ : Unit) (t : State) => va_P (dC, dI) classes [oX12 g0 m_refused m_kind m_figure m_weight m_got m_setting (nI n) msy mdn m_tape m_letter m_letterAt m_told tp mat stm m_kept him ki crs m_price m_offer m_gets m_yes m_buys m_ends m_carried m_row rm m_keptRow m_likeGets m_likePrice m_ahead, cI aC m_setting 5 stf] t.heap ∧ va_K (dC, dI) classes (TY aC) t ∧ va_D A [oX12 g0 m_refused m_kind m_figure m_weight m_got m_setting (nI n) msy mdn m_tape m_letter m_letterAt m_told tp mat stm m_kept him ki crs m_price m_offer m_gets m_yes m_buys m_ends m_carried m_row rm m_keptRow m_likeGets m_likePrice m_ahead, cI aC m_setting 5 stf]) A) ([Value.ref g0, Value.int (nI a0), Value.int (nI z0)] : List Value).toArray s 0 0 A) (F0 m 7 ls []) := by
    intro fu
    induction fu with
    | zero => intro k x3 hfu; exact absurd hfu (Nat.not_lt_zero _)
    | succ fu ih_7 =>
      intro k x3 hfu hk hx3 hag H locs ls hP hD hS hl
      refine lv_iload hx hb dX12_isAhead_7 (lv_at hl 4 rfl) ?_
      refine lv_aload_n hx hb dX12_isAhead_9 rfl (lv_at hl 0 rfl) ?_
      refine va_get (D := (dC, dI)) (ci := 12) (v := Value.int (nI n)) (C := RX12) (T := TX12) (N := 33) hx hb hts inX12 hown hK hP 0 rfl rfl 6 (by decide) (hts _ (gw kw_723 rfl)) (fun _ h9 => h9) rfl dX12_isAhead_10 ?_
      refine lv_icmp_ge (tgt := 73) hx hb dX12_isAhead_13 (by decide) (fun c_2 => ?_) (fun c_2 => ?_)
      · have hkn : k = n := by
          rcases Nat.lt_or_ge k n with q | q
          · exact absurd c_2 (nI_ge q (by omega))
          · omega
        refine lv_iconst (v := 0) hx hb dX12_isAhead_73 (by decide) ?_
        have hpd9 := pd_N (cx := [oX12 g0 m_refused m_kind m_figure m_weight m_got m_setting (nI n) msy mdn m_tape m_letter m_letterAt m_told tp mat stm m_kept him ki crs m_price m_offer m_gets m_yes m_buys m_ends m_carried m_row rm m_keptRow m_likeGets m_likePrice m_ahead, cI aC m_setting 5 stf]) hP hD [0, 1] (by decide) rfl
        have hP9 := hpd9.1
        have hD9 := hpd9.2
        refine W.widen (k := 0) (n := 0) (by omega) (by omega) ?_
        exact W.zret (v := 0) hx hb hr rfl (fun t ht hW => ⟨⟨0, (), rfl, by rw [ah_eq (fst := stf 3) hi.1 (fun p q1 q2 => hag p (by rw [hkn]; split <;> omega) q2), if_neg (Nat.lt_irrefl _)], by rw [ht]; exact hP9, va_K.moved hW.alike hK, hD9⟩, hS.F ht⟩) hS.2.2 dX12_isAhead_74
      · have hlt : k < n := by
          rcases Nat.lt_or_ge k n with q | q
          · exact q
          · exact absurd (nI_le q (by omega)) c_2
        refine lv_aload_n hx hb dX12_isAhead_16 rfl (lv_at hl 0 rfl) ?_
        refine va_get (D := (dC, dI)) (ci := 12) (v := Value.ref m_setting) (C := RX12) (T := TX12) (N := 33) hx hb hts inX12 hown hK hP 0 rfl rfl 5 (by decide) (hts _ (gw kw_722 rfl)) (fun _ h9 => h9) rfl dX12_isAhead_17 ?_
        refine lv_iconst (v := 3) hx hb dX12_isAhead_20 (by decide) ?_
        have h_3 : vp_in 3 5 := by first | exact vp_in_nI (by omega) (by omega) | (unfold vp_in; decide) | (subst_vars; first | (unfold vp_in; decide) | exact vp_in_nI (by omega) (by omega))
        refine va_iald hx hb hK hP 1 0 rfl rfl h_3 dX12_isAhead_21 ?_
        refine lv_topi (fun x_4 e_4 => ?_)
        have h9 : x_4 = (stf 3) := by rw [e_4]; rfl
        subst h9
        refine lv_if_ne (tgt := 30) hx hb dX12_isAhead_22 (by decide) (fun c_5 => ?_) (fun c_5 => ?_)
        · refine lv_aload_n hx hb dX12_isAhead_30 rfl (lv_at hl 0 rfl) ?_
          refine va_get (D := (dC, dI)) (ci := 12) (v := Value.int (nI n)) (C := RX12) (T := TX12) (N := 33) hx hb hts inX12 hown hK hP 0 rfl rfl 6 (by decide) (hts _ (gw kw_723 rfl)) (fun _ h9 => h9) rfl dX12_isAhead_31 ?_
          refine lv_iconst (v := 1) hx hb dX12_isAhead_34 (by decide) ?_
          refine lv_isub hx hb dX12_isAhead_35 ?_
          refine lv_topi (fun x_6 e_6 => ?_)
          have h9 : x_6 = nI (n - 1) := by rw [e_6]; exact pk_sub (a := n) (b := 1) (by omega)
          subst h9
          refine lv_iload hx hb dX12_isAhead_36 (lv_at hl 4 rfl) ?_
          refine lv_isub hx hb dX12_isAhead_38 ?_
          refine lv_topi (fun x_7 e_7 => ?_)
          have h9 : x_7 = nI (n - 1 - k) := by rw [e_7]; exact pk_sub (by omega)
          subst h9
          refine lv_istore (lv' := [(5, Value.int (nI (n - 1 - k))), (0, Value.ref g0), (1, Value.int (nI a0)), (2, Value.int (nI z0)), (3, Value.int x3), (4, Value.int (nI k))]) hx hb dX12_isAhead_39 hl (by decide) rfl (fun ls hl => ?_)
          obtain ⟨mm, hmm⟩ : ∃ mm, mm = (if stf 3 = 0 then k else n - 1 - k) := ⟨_, rfl⟩
          have h9 : nI (n - 1 - k) = nI mm := by rw [hmm, if_neg c_5]
          have hl : lv_has ls 6 [(5, Value.int (nI mm)), (0, Value.ref g0), (1, Value.int (nI a0)), (2, Value.int (nI z0)), (3, Value.int x3), (4, Value.int (nI k))] := by rw [← h9]; exact hl
          have hml9 : mm < n := by rw [hmm]; split <;> omega
          refine lv_iload_n hx hb dX12_isAhead_41 rfl (lv_at hl 4 rfl) ?_
          refine lv_iload hx hb dX12_isAhead_42 (lv_at hl 0 rfl) ?_
          refine lv_ishr hx hb dX12_isAhead_44 ?_
          refine lv_topi (fun x_8 e_8 => ?_)
          refine lv_iconst (v := 1) hx hb dX12_isAhead_45 (by decide) ?_
          refine lv_iand hx hb dX12_isAhead_46 ?_
          refine lv_topi (fun x_9 e_9 => ?_)
          refine lv_iconst (v := 1) hx hb dX12_isAhead_47 (by decide) ?_
          refine lv_icmp_ne (tgt := 67) hx hb dX12_isAhead_48 (by decide) (fun c_10 => ?_) (fun c_10 => ?_)
          · have hsm : a0.testBit mm = z0.testBit mm := by
              have h8 : ¬ bt x3 mm = true := fun q => c_10 (by rw [e_9, e_8]; exact (b_tst (by omega)).mpr q)
              rw [hx3 mm (by omega)] at h8
              revert h8
              cases a0.testBit mm <;> cases z0.testBit mm <;> simp
            have hb1 : ∀ p, (if stf 3 = 0 then p < k + 1 else n - 1 - (k + 1) + 1 ≤ p) → p < n → a0.testBit p = z0.testBit p := fun p q1 q2 => by
              by_cases e8 : p = mm
              · rw [e8]; exact hsm
              · refine hag p ?_ q2
                rw [hmm] at e8
                by_cases e9 : stf 3 = 0
                · rw [if_pos e9] at q1 e8 ⊢; omega
                · rw [if_neg e9] at q1 e8 ⊢; omega
            obtain ⟨x_11, e_11⟩ : ∃ y : Int32, y = (nI k) + 1 := ⟨_, rfl⟩
            refine lv_iinc (v := x_11) (lv' := [(4, Value.int x_11), (5, Value.int (nI mm)), (0, Value.ref g0), (1, Value.int (nI a0)), (2, Value.int (nI z0)), (3, Value.int x3)]) hx hb dX12_isAhead_67 hl (k := 5) rfl (by rw [e_11]; rfl) (by decide) rfl (fun ls hl => ?_)
            have h9 : x_11 = nI (k + 1) := by rw [e_11, nI_1]
            subst h9
            refine lv_goto (tgt := 7) hx hb dX12_isAhead_70 (by decide) ?_
            exact ih_7 (k + 1) x3 (ms_lt hlt hfu) (by omega) (hx3) (hb1) _ _ _ (hP.sub [0, 1] rfl) (hD.sub [0, 1] (by decide) rfl) hS (lv_sub hl [2, 3, 4, 5, 0] rfl)
          · have hdf : bt x3 mm = true := (b_tst (by omega)).mp (by rw [← e_8, ← e_9]; exact c_10)
            rw [hx3 mm (by omega)] at hdf
            have hmi : i < mm ∧ mm < n := by
              refine ⟨?_, hml9⟩
              cases h8 : a0.testBit mm with
              | true => exact (ha.2 mm h8).1
              | false =>
                cases h9 : z0.testBit mm with
                | true => exact (hz.2 mm h9).1
                | false => rw [h8, h9] at hdf; exact absurd hdf (by decide)
            have hup : ∀ p, i < p → p < n → (if stf 3 = 0 then p < mm else mm < p) → a0.testBit p = z0.testBit p := fun p q1 q2 q3 => by
              rw [hmm] at q3
              by_cases e9 : stf 3 = 0
              · rw [if_pos e9, if_pos e9] at q3; exact hag p (by rw [if_pos e9]; exact q3) q2
              · rw [if_neg e9, if_neg e9] at q3; exact hag p (by rw [if_neg e9]; omega) q2
            refine lv_iload_n hx hb dX12_isAhead_51 rfl (lv_at hl 2 rfl) ?_
            refine lv_iload hx hb dX12_isAhead_52 (lv_at hl 0 rfl) ?_
            refine lv_ishr hx hb dX12_isAhead_54 ?_
            refine lv_topi (fun x_12 e_12 => ?_)
            refine lv_iconst (v := 1) hx hb dX12_isAhead_55 (by decide) ?_
            refine lv_iand hx hb dX12_isAhead_56 ?_
            refine lv_topi (fun x_13 e_13 => ?_)
            refine lv_iconst (v := 1) hx hb dX12_isAhead_57 (by decide) ?_
            refine lv_icmp_ne (tgt := 65) hx hb dX12_isAhead_58 (by decide) (fun c_14 => ?_) (fun c_14 => ?_)
            · refine lv_iconst (v := 0) hx hb dX12_isAhead_65 (by decide) ?_
              have hpd9 := pd_N (cx := [oX12 g0 m_refused m_kind m_figure m_weight m_got m_setting (nI n) msy mdn m_tape m_letter m_letterAt m_told tp mat stm m_kept him ki crs m_price m_offer m_gets m_yes m_buys m_ends m_carried m_row rm m_keptRow m_likeGets m_likePrice m_ahead, cI aC m_setting 5 stf]) hP hD [0, 1] (by decide) rfl
              have hP9 := hpd9.1
              have hD9 := hpd9.2
              refine W.widen (k := 0) (n := 0) (by omega) (by omega) ?_
              exact W.zret (v := 0) hx hb hr rfl (fun t ht hW => ⟨⟨0, (), rfl, by have h7 : a0.testBit mm = false := (by rw [← b_get (b := a0) (by omega) (by omega)]; exact Bool.eq_false_iff.mpr (fun q => c_14 (by rw [e_13, e_12]; exact (b_tst (by omega)).mpr q))); have h8 : z0.testBit mm = true := (by cases h9 : z0.testBit mm with | true => rfl | false => rw [h7, h9] at hdf; exact absurd hdf (by decide)); rw [if_neg (Nat.not_lt.mpr (Nat.le_of_lt (ah_lt (fst := stf 3) hmi h7 h8 hup)))], by rw [ht]; exact hP9, va_K.moved hW.alike hK, hD9⟩, hS.F ht⟩) hS.2.2 dX12_isAhead_66
            · refine lv_iconst (v := 1) hx hb dX12_isAhead_61 (by decide) ?_
              refine lv_goto (tgt := 66) hx hb dX12_isAhead_62 (by decide) ?_
              have hpd9 := pd_N (cx := [oX12 g0 m_refused m_kind m_figure m_weight m_got m_setting (nI n) msy mdn m_tape m_letter m_letterAt m_told tp mat stm m_kept him ki crs m_price m_offer m_gets m_yes m_buys m_ends m_carried m_row rm m_keptRow m_likeGets m_likePrice m_ahead, cI aC m_setting 5 stf]) hP hD [0, 1] (by decide) rfl
              have hP9 := hpd9.1
              have hD9 := hpd9.2
              refine W.widen (k := 0) (n := 0) (by omega) (by omega) ?_
              exact W.zret (v := 1) hx hb hr rfl (fun t ht hW => ⟨⟨1, (), rfl, by have h7 : a0.testBit mm = true := (by rw [← b_get (b := a0) (by omega) (by omega)]; exact (b_tst (by omega)).mp (by rw [← e_12, ← e_13]; exact c_14)); have h8 : z0.testBit mm = false := (by cases h9 : z0.testBit mm with | false => rfl | true => rw [h7, h9] at hdf; exact absurd hdf (by decide)); rw [if_pos (ah_lt (fst := stf 3) hmi h8 h7 (fun p q1 q2 q3 => (hup p q1 q2 q3).symm))], by rw [ht]; exact hP9, va_K.moved hW.alike hK, hD9⟩, hS.F ht⟩) hS.2.2 dX12_isAhead_66
        · refine lv_iload hx hb dX12_isAhead_25 (lv_at hl 4 rfl) ?_
          refine lv_goto (tgt := 39) hx hb dX12_isAhead_27 (by decide) ?_
          refine lv_istore (lv' := [(5, Value.int (nI k)), (0, Value.ref g0), (1, Value.int (nI a0)), (2, Value.int (nI z0)), (3, Value.int x3), (4, Value.int (nI k))]) hx hb dX12_isAhead_39 hl (by decide) rfl (fun ls hl => ?_)
          obtain ⟨mm, hmm⟩ : ∃ mm, mm = (if stf 3 = 0 then k else n - 1 - k) := ⟨_, rfl⟩
          have h9 : nI k = nI mm := by rw [hmm, if_pos c_5]
          have hl : lv_has ls 6 [(5, Value.int (nI mm)), (0, Value.ref g0), (1, Value.int (nI a0)), (2, Value.int (nI z0)), (3, Value.int x3), (4, Value.int (nI k))] := by rw [← h9]; exact hl
          have hml9 : mm < n := by rw [hmm]; split <;> omega
          refine lv_iload_n hx hb dX12_isAhead_41 rfl (lv_at hl 4 rfl) ?_
          refine lv_iload hx hb dX12_isAhead_42 (lv_at hl 0 rfl) ?_
          refine lv_ishr hx hb dX12_isAhead_44 ?_
          refine lv_topi (fun x_15 e_15 => ?_)
          refine lv_iconst (v := 1) hx hb dX12_isAhead_45 (by decide) ?_
          refine lv_iand hx hb dX12_isAhead_46 ?_
          refine lv_topi (fun x_16 e_16 => ?_)
          refine lv_iconst (v := 1) hx hb dX12_isAhead_47 (by decide) ?_
          refine lv_icmp_ne (tgt := 67) hx hb dX12_isAhead_48 (by decide) (fun c_17 => ?_) (fun c_17 => ?_)
          · have hsm : a0.testBit mm = z0.testBit mm := by
              have h8 : ¬ bt x3 mm = true := fun q => c_17 (by rw [e_16, e_15]; exact (b_tst (by omega)).mpr q)
              rw [hx3 mm (by omega)] at h8
              revert h8
              cases a0.testBit mm <;> cases z0.testBit mm <;> simp
            have hb1 : ∀ p, (if stf 3 = 0 then p < k + 1 else n - 1 - (k + 1) + 1 ≤ p) → p < n → a0.testBit p = z0.testBit p := fun p q1 q2 => by
              by_cases e8 : p = mm
              · rw [e8]; exact hsm
              · refine hag p ?_ q2
                rw [hmm] at e8
                by_cases e9 : stf 3 = 0
                · rw [if_pos e9] at q1 e8 ⊢; omega
                · rw [if_neg e9] at q1 e8 ⊢; omega
            obtain ⟨x_18, e_18⟩ : ∃ y : Int32, y = (nI k) + 1 := ⟨_, rfl⟩
            refine lv_iinc (v := x_18) (lv' := [(4, Value.int x_18), (5, Value.int (nI mm)), (0, Value.ref g0), (1, Value.int (nI a0)), (2, Value.int (nI z0)), (3, Value.int x3)]) hx hb dX12_isAhead_67 hl (k := 5) rfl (by rw [e_18]; rfl) (by decide) rfl (fun ls hl => ?_)
            have h9 : x_18 = nI (k + 1) := by rw [e_18, nI_1]
            subst h9
            refine lv_goto (tgt := 7) hx hb dX12_isAhead_70 (by decide) ?_
            exact ih_7 (k + 1) x3 (ms_lt hlt hfu) (by omega) (hx3) (hb1) _ _ _ (hP.sub [0, 1] rfl) (hD.sub [0, 1] (by decide) rfl) hS (lv_sub hl [2, 3, 4, 5, 0] rfl)
          · have hdf : bt x3 mm = true := (b_tst (by omega)).mp (by rw [← e_15, ← e_16]; exact c_17)
            rw [hx3 mm (by omega)] at hdf
            have hmi : i < mm ∧ mm < n := by
              refine ⟨?_, hml9⟩
              cases h8 : a0.testBit mm with
              | true => exact (ha.2 mm h8).1
              | false =>
                cases h9 : z0.testBit mm with
                | true => exact (hz.2 mm h9).1
                | false => rw [h8, h9] at hdf; exact absurd hdf (by decide)
            have hup : ∀ p, i < p → p < n → (if stf 3 = 0 then p < mm else mm < p) → a0.testBit p = z0.testBit p := fun p q1 q2 q3 => by
              rw [hmm] at q3
              by_cases e9 : stf 3 = 0
              · rw [if_pos e9, if_pos e9] at q3; exact hag p (by rw [if_pos e9]; exact q3) q2
              · rw [if_neg e9, if_neg e9] at q3; exact hag p (by rw [if_neg e9]; omega) q2
            refine lv_iload_n hx hb dX12_isAhead_51 rfl (lv_at hl 2 rfl) ?_
            refine lv_iload hx hb dX12_isAhead_52 (lv_at hl 0 rfl) ?_
            refine lv_ishr hx hb dX12_isAhead_54 ?_
            refine lv_topi (fun x_19 e_19 => ?_)
            refine lv_iconst (v := 1) hx hb dX12_isAhead_55 (by decide) ?_
            refine lv_iand hx hb dX12_isAhead_56 ?_
            refine lv_topi (fun x_20 e_20 => ?_)
            refine lv_iconst (v := 1) hx hb dX12_isAhead_57 (by decide) ?_
            refine lv_icmp_ne (tgt := 65) hx hb dX12_isAhead_58 (by decide) (fun c_21 => ?_) (fun c_21 => ?_)
            · refine lv_iconst (v := 0) hx hb dX12_isAhead_65 (by decide) ?_
              have hpd9 := pd_N (cx := [oX12 g0 m_refused m_kind m_figure m_weight m_got m_setting (nI n) msy mdn m_tape m_letter m_letterAt m_told tp mat stm m_kept him ki crs m_price m_offer m_gets m_yes m_buys m_ends m_carried m_row rm m_keptRow m_likeGets m_likePrice m_ahead, cI aC m_setting 5 stf]) hP hD [0, 1] (by decide) rfl
              have hP9 := hpd9.1
              have hD9 := hpd9.2
              refine W.widen (k := 0) (n := 0) (by omega) (by omega) ?_
              exact W.zret (v := 0) hx hb hr rfl (fun t ht hW => ⟨⟨0, (), rfl, by have h7 : a0.testBit mm = false := (by rw [← b_get (b := a0) (by omega) (by omega)]; exact Bool.eq_false_iff.mpr (fun q => c_21 (by rw [e_20, e_19]; exact (b_tst (by omega)).mpr q))); have h8 : z0.testBit mm = true := (by cases h9 : z0.testBit mm with | true => rfl | false => rw [h7, h9] at hdf; exact absurd hdf (by decide)); rw [if_neg (Nat.not_lt.mpr (Nat.le_of_lt (ah_lt (fst := stf 3) hmi h7 h8 hup)))], by rw [ht]; exact hP9, va_K.moved hW.alike hK, hD9⟩, hS.F ht⟩) hS.2.2 dX12_isAhead_66
            · refine lv_iconst (v := 1) hx hb dX12_isAhead_61 (by decide) ?_
              refine lv_goto (tgt := 66) hx hb dX12_isAhead_62 (by decide) ?_
              have hpd9 := pd_N (cx := [oX12 g0 m_refused m_kind m_figure m_weight m_got m_setting (nI n) msy mdn m_tape m_letter m_letterAt m_told tp mat stm m_kept him ki crs m_price m_offer m_gets m_yes m_buys m_ends m_carried m_row rm m_keptRow m_likeGets m_likePrice m_ahead, cI aC m_setting 5 stf]) hP hD [0, 1] (by decide) rfl
              have hP9 := hpd9.1
              have hD9 := hpd9.2
              refine W.widen (k := 0) (n := 0) (by omega) (by omega) ?_
              exact W.zret (v := 1) hx hb hr rfl (fun t ht hW => ⟨⟨1, (), rfl, by have h7 : a0.testBit mm = true := (by rw [← b_get (b := a0) (by omega) (by omega)]; exact (b_tst (by omega)).mp (by rw [← e_19, ← e_20]; exact c_21)); have h8 : z0.testBit mm = false := (by cases h9 : z0.testBit mm with | false => rfl | true => rw [h7, h9] at hdf; exact absurd hdf (by decide)); rw [if_pos (ah_lt (fst := stf 3) hmi h8 h7 (fun p q1 q2 q3 => (hup p q1 q2 q3).symm))], by rw [ht]; exact hP9, va_K.moved hW.alike hK, hD9⟩, hS.F ht⟩) hS.2.2 dX12_isAhead_66
  exact lp_7 ((n - 0) + 1) 0 x_1 (Nat.lt_succ_self _) (Nat.zero_le _) (fun b hb => by rw [e_1, b_xor, b_get (by omega) hb, b_get (by omega) hb]) (fun p q1 q2 => by exfalso; revert q1; split <;> omega) _ _ _ (hP.sub [0, 1] rfl) (hD.sub [0, 1] (by decide) rfl) hS (lv_sub hl [2, 3, 4, 1, 0] rfl)

end

section
/-! 48.offm -/
/-! what the reference offers -/
/-- the row of an offer behind the men before m -/
def BO (cq i : Nat) (Pq : Nat → Nat) (s m : Nat) : Nat → Nat := fun q => if q = i then cq - sumr (fun q => if s.testBit q = true then Pq q else 0) (i + 1) (m - (i + 1)) else if i < q ∧ q < m ∧ s.testBit q = true then Pq q else 0
theorem BO_0 {cq i : Nat} {Pq : Nat → Nat} {s : Nat} : BO cq i Pq s (i + 1) = KO cq i := by
  funext q
  unfold BO KO
  rw [Nat.sub_self]
  by_cases e : q = i
  · rw [if_pos e, if_pos e]; rfl
  · rw [if_neg e, if_neg e, if_neg (by omega)]
theorem BO_n {cq i : Nat} {Pq : Nat → Nat} {s m : Nat} (hm : i < m) (h : s.testBit m = false) : BO cq i Pq s (m + 1) = BO cq i Pq s m := by
  funext q
  unfold BO
  rw [sumr_suc (f := fun q => if s.testBit q = true then Pq q else 0) (a := i + 1) (j := m) hm]
  by_cases e : q = i
  · rw [if_pos e, if_pos e, h]; rfl
  · rw [if_neg e, if_neg e]
    by_cases e2 : q = m
    · subst e2
      rw [h, if_neg (by simp), if_neg (by simp)]
    · by_cases e3 : i < q ∧ q < m ∧ s.testBit q = true
      · rw [if_pos e3, if_pos ⟨e3.1, by omega, e3.2.2⟩]
      · rw [if_neg e3, if_neg (fun z => e3 ⟨z.1, by omega, z.2.2⟩)]
theorem BO_y {cq i : Nat} {Pq : Nat → Nat} {s m q : Nat} (hm : i < m) (h : s.testBit m = true) : BO cq i Pq s (m + 1) q = if q = i then BO cq i Pq s m i - Pq m else if q = m then Pq m else BO cq i Pq s m q := by
  unfold BO
  rw [sumr_suc (f := fun q => if s.testBit q = true then Pq q else 0) (a := i + 1) (j := m) hm]
  by_cases e : q = i
  · rw [if_pos e, if_pos e, if_pos rfl, h, if_pos rfl]; omega
  · rw [if_neg e, if_neg e]
    by_cases e2 : q = m
    · subst e2
      rw [if_pos rfl, if_pos ⟨hm, by omega, h⟩]
    · rw [if_neg e2, if_neg e]
      by_cases e3 : i < q ∧ q < m ∧ s.testBit q = true
      · rw [if_pos e3, if_pos ⟨e3.1, by omega, e3.2.2⟩]
      · rw [if_neg e3, if_neg (fun z => e3 ⟨z.1, by omega, z.2.2⟩)]
theorem BO_le {cq i n : Nat} {Pq : Nat → Nat} {s m : Nat} (hm : i < m ∧ m < n) (h : s.testBit m = true) (hc : cstm Pq n i s ≤ cq) : Pq m ≤ BO cq i Pq s m i := by
  unfold BO
  rw [if_pos rfl]
  have h1 := sumr_suc (f := fun q => if s.testBit q = true then Pq q else 0) (a := i + 1) (j := m) hm.1
  have h2 := sumr_split (f := fun q => if s.testBit q = true then Pq q else 0) (a := i + 1) (k := m + 1 - (i + 1)) (d := n - (m + 1))
  rw [show m + 1 - (i + 1) + (n - (m + 1)) = n - 1 - i by omega] at h2
  rw [h, if_pos rfl] at h1
  unfold cstm at hc
  omega
theorem BO_fin {n : Nat} {W : Nat → Nat} {cq : Nat} {law fst : Int32} {i : Nat} {Pq : Nat → Nat} {s : Nat} {B : Int32} (hi : i < n) (hn : n ≤ 8) (hs : s < 2 ^ n) (hB : B = nI s) (hb : BND n i s) (h1 : BST (ENf n W law fst i Pq) (cst (fun u => Pq (mu fst n i u))) (2 ^ (n - 1 - i)) (nI (us fst n i s))) (hc : cstm Pq n i s ≤ cq) : BUYS n W cq law fst i Pq (BO cq i Pq s n) B := by
  have h8 := p28 hn
  have hp7 := p2_le (t := n - 1 - i) (by omega)
  have hul := us_lt (fst := fst) (n := n) (i := i) (s := s)
  refine ⟨_, h1, fun b p1 p2 p3 => ?_, fun h => ?_⟩
  · have e : us fst n i s = b := (nI_eq (by omega) (by omega)).mp p2
    subst e
    refine ⟨fun q hq => ?_, fun q hq => ?_⟩
    · rw [mb_us hi hb, hB]
      by_cases h31 : q < 31
      · exact b_get (by omega) h31
      · have h32 : q = 31 := by omega
        subst h32
        rw [Nat.testBit_lt_two_pow (by omega)]
        unfold bt nI
        show (BitVec.ofNat 32 s).getLsbD 31 = _
        rw [BitVec.getLsbD_ofNat, Nat.testBit_lt_two_pow (by omega)]
        simp
    · rw [mb_us hi hb, cst_us hi hn]
      unfold BO
      by_cases e : q = i
      · rw [if_pos e, if_pos e]
        unfold cstm
        rw [show n - (i + 1) = n - 1 - i by omega]
      · rw [if_neg e, if_neg e]
        by_cases e2 : s.testBit q = true
        · rw [if_pos e2, if_pos ⟨(hb q e2).1, (hb q e2).2, e2⟩]
        · rw [if_neg e2, if_neg (fun z => e2 z.2.2)]
  · rw [← cst_us (fst := fst) hi hn] at hc
    exact (bc_none (ct := cst (fun u => Pq (mu fst n i u))) (by omega) h us_lt rfl hc).elim
theorem BO_none {n : Nat} {W : Nat → Nat} {cq : Nat} {law fst : Int32} {i : Nat} {Pq : Nat → Nat} {rb : Int32} (hi : i < n) (hn : n ≤ 8) (h1 : BST (ENf n W law fst i Pq) (cst (fun u => Pq (mu fst n i u))) (2 ^ (n - 1 - i)) rb) (h : rb = -9 ∨ ∃ b, b < 2 ^ (n - 1 - i) ∧ rb = nI b ∧ cq < cst (fun u => Pq (mu fst n i u)) b) : BUYS n W cq law fst i Pq (KO cq i) (-9) := by
  have hp7 := p2_le (t := n - 1 - i) (by omega)
  exact ⟨rb, h1, fun b p1 p2 p3 => (bc_none (ct := cst (fun u => Pq (mu fst n i u))) (by omega) h p1 p2 p3).elim, fun _ => ⟨rfl, fun q _ => rfl⟩⟩
/-- a fair man always can -/
theorem sE_i {cq i c : Nat} : ∀ k, k * c ≤ cq → sE (KO cq i) i c k i = cq - k * c
  | 0, _ => by show KO cq i i = _; unfold KO; rw [if_pos rfl]; omega
  | k + 1, h => by
    have e : (k + 1) * c = k * c + c := Nat.succ_mul k c
    have ih := sE_i (cq := cq) (i := i) (c := c) k (by omega)
    show gv (sE (KO cq i) i c k) i (i + 1 + k) c i = _
    unfold gv
    rw [ih, if_pos (by omega), if_neg (by omega), if_pos rfl]
    omega
theorem fair_le {cq i n k : Nat} (hk : k < n - i) : k * (cq / (n - i)) + cq / (n - i) ≤ cq := by
  have h1 : (k + 1) * (cq / (n - i)) ≤ (n - i) * (cq / (n - i)) := Nat.mul_le_mul_right _ hk
  have h2 := Nat.mul_div_le cq (n - i)
  rw [Nat.succ_mul] at h1
  omega
theorem sE_stay {O : Nat → Nat} {i c : Nat} (k : Nat) (h : ¬ c ≤ sE O i c k i) : ∀ d, sE O i c (k + d) = sE O i c k
  | 0 => rfl
  | d + 1 => by
    show gv (sE O i c (k + d)) i (i + 1 + (k + d)) c = _
    rw [sE_stay k h d]
    funext q
    unfold gv
    rw [if_neg h]
theorem sY_stay {O : Nat → Nat} {n i c : Nat} (k : Nat) (h : ¬ c ≤ sY O n i c k i) : ∀ d, sY O n i c (k + d) = sY O n i c k
  | 0 => rfl
  | d + 1 => by
    show gv (sY O n i c (k + d)) i (n - 1 - (k + d)) c = _
    rw [sY_stay k h d]
    funext q
    unfold gv
    rw [if_neg h]
theorem or_fin {n : Nat} {K F W : Nat → Nat} {cq : Nat} {law tie fst : Int32} {pl : PLT} (h : PLAN n K F W cq law tie fst pl) {i : Nat} (hi : i < n) (hn : n ≤ 8) (hK : K i ≤ 6) {O : Nat → Nat} {B : Int32} {f : Nat → Int32} (hO : OFFER n K F W cq law fst i (zP pl i) O B) (hr : ∀ q, q < n → f (9 * i + q) = nI (O q)) : (∀ q, q < n → f (9 * i + q) = nI (zO pl i q)) ∧ B = zB pl i := by
  obtain ⟨h1, h2⟩ := OFFER_un hK hO (h i hi).1.2.1
  exact ⟨fun q hq => by rw [hr q hq, h1 q (by omega)], h2⟩
theorem of_by {n : Nat} {K F W : Nat → Nat} {cq : Nat} {law fst : Int32} {i : Nat} {Pq O : Nat → Nat} {B : Int32} (hK : K i = 0 ∨ K i = 1 ∨ K i = 2 ∨ K i = 5) (h : BUYS n W cq law fst i Pq O B) : OFFER n K F W cq law fst i Pq O B := ⟨fun _ => h, fun q => by omega, fun q => by omega, fun q => by omega⟩

end

section
/-! 49.offn -/
theorem BO_z {cq i : Nat} {Pq : Nat → Nat} {m : Nat} : BO cq i Pq 0 m = KO cq i := by
  funext q
  unfold BO KO
  rw [sumr_zero (fun j _ _ => by simp)]
  simp
theorem by_split {n : Nat} {W : Nat → Nat} {cq : Nat} {law fst : Int32} {i : Nat} {Pq : Nat → Nat} {r : Int32} (hi : i < n) (hn : n ≤ 8) (h : BYR n W cq law fst i Pq r) : ∃ s, BUYS n W cq law fst i Pq (BO cq i Pq s n) r ∧ ((r = -9 ∧ s = 0) ∨ (r = nI s ∧ s < 2 ^ n ∧ BND n i s ∧ cstm Pq n i s ≤ cq)) := by
  rcases h with ⟨h1, rb, h2, h3⟩ | ⟨s, h1, h2, h3, h4, h5⟩
  · refine ⟨0, ?_, Or.inl ⟨h1, rfl⟩⟩
    rw [BO_z, h1]
    exact BO_none hi hn h2 h3
  · exact ⟨s, BO_fin hi hn h1 h2 h3 h4 h5, Or.inr ⟨h2, h1, h3, h5⟩⟩
theorem BO_9 {cq i : Nat} {Pq : Nat → Nat} {s m : Nat} (hc : cq ≤ 99) : BO cq i Pq s m i ≤ 99 := by
  unfold BO
  rw [if_pos rfl]
  omega
theorem oe_row {n i j v a : Nat} {f f2 : Nat → Int32} {O O2 : Nat → Nat} (hij : i < j ∧ j < n ∧ n ≤ 8) (hf : f2 = upd (upd f (9 * i + j) (nI v)) (9 * i + i) (nI (a - v))) (ha : O i = a) (hO : ∀ q, q < n → f (9 * i + q) = nI (O q)) (h2 : ∀ q, q < n → O2 q = if q = i then O i - v else if q = j then v else O q) : ∀ q, q < n → f2 (9 * i + q) = nI (O2 q) := by
  intro q hq
  rw [hf, h2 q hq]
  by_cases e : q = i
  · rw [e, if_pos rfl, pk_us, ha]
  · rw [if_neg e, pk_un (by omega)]
    by_cases e2 : q = j
    · rw [e2, if_pos rfl, pk_us]
    · rw [if_neg e2, pk_un (by omega)]; exact hO q hq
theorem oe_fr {i j v a : Nat} {f f2 g : Nat → Int32} (hij : i < 9 ∧ j < 9) (hf : f2 = upd (upd f (9 * i + j) (nI v)) (9 * i + i) (nI (a - v))) (h : ∀ k, k < 9 * i ∨ 9 * i + 9 ≤ k → f k = g k) : ∀ k, k < 9 * i ∨ 9 * i + 9 ≤ k → f2 k = g k := by
  intro k hk
  rw [hf, pk_un (by omega), pk_un (by omega)]
  exact h k hk

end

section
/-! 50.ref2 -/
set_option maxHeartbeats 1000000 in
set_option maxRecDepth 100000 in
/-- X12_buysBy -/
theorem c_X12_buysBy (l : Launch) (dC : Nat → ClassId) (dI : Nat → Nat → Nat) (aC : Nat → ClassId) (sz : Nat) (g0 : Nat) (m_refused : Nat) (m_kind : Nat) (m_figure : Nat) (m_weight : Nat) (m_got : Nat) (m_setting : Nat) (m_tape : Nat) (m_letter : Nat) (m_letterAt : Nat) (m_told : Nat) (m_kept : Nat) (m_price : Nat) (m_offer : Nat) (m_gets : Nat) (m_yes : Nat) (m_buys : Nat) (m_ends : Nat) (m_carried : Nat) (m_row : Nat) (m_keptRow : Nat) (m_likeGets : Nat) (m_likePrice : Nat) (m_ahead : Nat) (msy : Int32) (mdn : Int32) (tp : Int32) (mat : Int32) (stm : Int32) (him : Int32) (ki : Int32) (crs : Int32) (rm : Int32) (n : Nat) (wf : Nat → Int32) (stf : Nat → Int32) (pf : Nat → Int32) (W0 : Nat → Nat) (Pq : Nat → Nat) (cq : Nat) (i : Nat) (hw : n ≤ 8 ∧ ∀ j, j < n → wf j = nI (W0 j) ∧ W0 j ≤ 9) (hi : i < n ∧ n ≤ 8) (hPq : ∀ q, i < q → q < n → pf (9 * i + q) = nI (Pq q) ∧ Pq q ≤ 110) (hcq : stf 0 = nI cq ∧ cq ≤ 99) : Met l yX12_buysBy (wW yX12_buysBy cX12_buysBy 6 (some .int)) ({ frames := 1, cells := 0, slots := 0, locals := 25 } : Room) (va_Pc [Value.ref g0, Value.int (nI i)] (fun U => U.heap.size = sz ∧ va_P (dC, dI) classes [oX12 g0 m_refused m_kind m_figure m_weight m_got m_setting (nI n) msy mdn m_tape m_letter m_letterAt m_told tp mat stm m_kept him ki crs m_price m_offer m_gets m_yes m_buys m_ends m_carried m_row rm m_keptRow m_likeGets m_likePrice m_ahead, cI aC m_weight 9 wf, cI aC m_setting 5 stf, cI aC m_price 81 pf] U.heap ∧ va_K (dC, dI) classes (TY aC) U ∧ va_D (fun _ => True) [oX12 g0 m_refused m_kind m_figure m_weight m_got m_setting (nI n) msy mdn m_tape m_letter m_letterAt m_told tp mat stm m_kept him ki crs m_price m_offer m_gets m_yes m_buys m_ends m_carried m_row rm m_keptRow m_likeGets m_likePrice m_ahead, cI aC m_weight 9 wf, cI aC m_setting 5 stf, cI aC m_price 81 pf] ∧ NX U)) (va_Qi (fun (r : Int32) (_ : Unit) => BYR n W0 cq (stf 1) (stf 3) i Pq r) (fun (_ : Unit) (t : State) => va_P (dC, dI) classes [oX12 g0 m_refused m_kind m_figure m_weight m_got m_setting (nI n) msy mdn m_tape m_letter m_letterAt m_told tp mat stm m_kept him ki crs m_price m_offer m_gets m_yes m_buys m_ends m_carried m_row rm m_keptRow m_likeGets m_likePrice m_ahead, cI aC m_weight 9 wf, cI aC m_setting 5 stf, cI aC m_price 81 pf] t.heap ∧ va_K (dC, dI) classes (TY aC) t ∧ va_D (va_A [oX12 g0 m_refused m_kind m_figure m_weight m_got m_setting (nI n) msy mdn m_tape m_letter m_letterAt m_told tp mat stm m_kept him ki crs m_price m_offer m_gets m_yes m_buys m_ends m_carried m_row rm m_keptRow m_likeGets m_likePrice m_ahead, cI aC m_weight 9 wf, cI aC m_setting 5 stf, cI aC m_price 81 pf] sz) [oX12 g0 m_refused m_kind m_figure m_weight m_got m_setting (nI n) msy mdn m_tape m_letter m_letterAt m_told tp mat stm m_kept him ki crs m_price m_offer m_gets m_yes m_buys m_ends m_carried m_row rm m_keptRow m_likeGets m_likePrice m_ahead, cI aC m_weight 9 wf, cI aC m_setting 5 stf, cI aC m_price 81 pf]) (va_A [oX12 g0 m_refused m_kind m_figure m_weight m_got m_setting (nI n) msy mdn m_tape m_letter m_letterAt m_told tp mat stm m_kept him ki crs m_price m_offer m_gets m_yes m_buys m_ends m_carried m_row rm m_keptRow m_likeGets m_likePrice m_ahead, cI aC m_weight 9 wf, cI aC m_setting 5 stf, cI aC m_price 81 pf] sz)) 0 0 (va_A [oX12 g0 m_refused m_kind m_figure m_weight m_got m_setting (nI n) msy mdn m_tape m_letter m_letterAt m_told tp mat stm m_kept him ki crs m_price m_offer m_gets m_yes m_buys m_ends m_carried m_row rm m_keptRow m_likeGets m_likePrice m_ahead, cI aC m_weight 9 wf, cI aC m_setting 5 stf, cI aC m_price 81 pf] sz) := by
  refine Met.ofW (cc := cX12_buysBy) (maxL := 6) (ret := (some .int)) (by decide) rfl ?_
  intro p e s m args below meth c s₁ B hml hv
  obtain ⟨rfl, hsz, hP, hK, hD0, hN⟩ := hv
  have hx := B.exec
  have hb := B.bytes
  have hr := B.returns
  have hts0 := atoms_spec (ws := (wW yX12_buysBy cX12_buysBy 6 (some .int))) B.pre
  have hts : ∀ w9 ∈ lw_G, w9.before ([Value.ref g0, Value.int (nI i)] : List Value).toArray s = true := fun w9 h9 => hts0 w9 (List.mem_cons_of_mem _ h9)
  have hown : s.vm.findClass RX12 = some m.cls := findClass_of_methodNamed (x := yX12_buysBy) B.named
  have hlocks := B.notSynchronized
  subst hsz
  have hD := hD0.self (sz := s.heap.size)
  generalize hAe : va_A [oX12 g0 m_refused m_kind m_figure m_weight m_got m_setting (nI n) msy mdn m_tape m_letter m_letterAt m_told tp mat stm m_kept him ki crs m_price m_offer m_gets m_yes m_buys m_ends m_carried m_row rm m_keptRow m_likeGets m_likePrice m_ahead, cI aC m_weight 9 wf, cI aC m_setting 5 stf, cI aC m_price 81 pf] s.heap.size = A at hD ⊢
  have hA : ∀ q : Nat, s.heap.size ≤ q → A q := fun q h => by rw [← hAe]; exact Or.inr h
  obtain ⟨H, hHe⟩ : ∃ H : Heap, H = s.heap := ⟨_, rfl⟩
  have hS : va_S A s.heap H [] := by rw [hHe]; exact va_S.rf
  have hP : va_P (dC, dI) classes [oX12 g0 m_refused m_kind m_figure m_weight m_got m_setting (nI n) msy mdn m_tape m_letter m_letterAt m_told tp mat stm m_kept him ki crs m_price m_offer m_gets m_yes m_buys m_ends m_carried m_row rm m_keptRow m_likeGets m_likePrice m_ahead, cI aC m_weight 9 wf, cI aC m_setting 5 stf, cI aC m_price 81 pf] H := by rw [hHe]; exact hP
  have hl := lv_entry ([Value.ref g0, Value.int (nI i)]) (n := 6) (Nat.le_of_ble_eq_true rfl)
  rw [lg_entry_eq]
  generalize (lg_sl ([Value.ref g0, Value.int (nI i)]) ++ List.replicate (6 - (lg_sl ([Value.ref g0, Value.int (nI i)])).length) Slot.unset).toArray = ls at hl ⊢
  have hl : lv_has ls 6 [(0, Value.ref g0), (1, Value.int (nI i))] := hl
  rw [← hHe]
  have h256 := p28 hi.2
  have hs9 := w_le (W := W0) (a := i) (k := n - i) (fun j q => (hw.2 j q).2) (by omega) hw.1
  refine lv_aload_n hx hb dX12_buysBy_0 rfl (lv_at hl 0 rfl) ?_
  refine lv_iload_n hx hb dX12_buysBy_1 rfl (lv_at hl 1 rfl) ?_
  have hpd9 := pdf_N (cx := [oX12 g0 m_refused m_kind m_figure m_weight m_got m_setting (nI n) msy mdn m_tape m_letter m_letterAt m_told tp mat stm m_kept him ki crs m_price m_offer m_gets m_yes m_buys m_ends m_carried m_row rm m_keptRow m_likeGets m_likePrice m_ahead]) hP hD hS hA [0] (by decide) rfl
  have hPc := hpd9.1
  have hDc := hpd9.2.1
  have hFc := hpd9.2.2
  clear hpd9
  refine va_calli (va_runV (As := [Value.int (nI i)]) (rest := []) ⟨hx, hb, hml, hown, hts⟩ (c_X12_leftFrom l dC dI aC H.size g0 m_refused m_kind m_figure m_weight m_got m_setting m_tape m_letter m_letterAt m_told m_kept m_price m_offer m_gets m_yes m_buys m_ends m_carried m_row m_keptRow m_likeGets m_likePrice m_ahead msy mdn tp mat stm him ki crs rm n i (by omega)) ⟨(callB_of 1 hts (gG kw_922) rfl rfl rfl (hts _ (gw kw_13 rfl)) (hts _ (gw kw_919 rfl)) hd_X12_leftFrom ⟨Nat.le_of_ble_eq_true rfl, Nat.le_of_ble_eq_true rfl⟩), (hts _ (gw kw_921 rfl)), (hts _ (gw ks_50 rfl))⟩ ⟨fb_std, va_recv (q := (RX12, TX12, 33)) hK hPc (ci := 12) (q0 := 0) rfl rfl, pre_std hPc hK hDc hN⟩ rfl rfl hl.1 rfl (lv_room (Nat.le_of_ble_eq_true rfl)) dX12_buysBy_2 ⟨Nat.le_of_ble_eq_true rfl, Nat.le_of_ble_eq_true rfl⟩) hS (fun q _ h => hFc q h) hFc (fun x_1 u9 t9 H1 locs ht hvm hw_1 hB hz1 hk1 hS => ?_)
  obtain ⟨hP1, hK1, hD1⟩ := hB
  rw [ht] at hP1
  clear hK1
  try dsimp only at hw_1
  have hpd9 : PDx (dC, dI) classes A H1 [cI aC m_weight 9 wf, cI aC m_setting 5 stf, cI aC m_price 81 pf, oX12 g0 m_refused m_kind m_figure m_weight m_got m_setting (nI n) msy mdn m_tape m_letter m_letterAt m_told tp mat stm m_kept him ki crs m_price m_offer m_gets m_yes m_buys m_ends m_carried m_row rm m_keptRow m_likeGets m_likePrice m_ahead] := jn_N (wr := [cI aC m_weight 9 wf, cI aC m_setting 5 stf, cI aC m_price 81 pf]) hFc hk1 hP1 hD1 hP hD [0] [1, 2, 3] rfl rfl (by decide) (by decide)
  have hP := hpd9.1
  have hD := hpd9.2
  clear hpd9
  generalize H1 = H at hP hS ⊢
  clear hPc hDc hFc hz1 hk1 hP1 hD1 ht hvm
  refine lv_iconst (v := 1) hx hb dX12_buysBy_5 (by decide) ?_
  refine lv_iload_n hx hb dX12_buysBy_6 rfl (lv_at hl 1 rfl) ?_
  refine lv_ishl hx hb dX12_buysBy_7 ?_
  refine lv_topi (fun x_2 e_2 => ?_)
  refine lv_iconst (v := -1) hx hb dX12_buysBy_8 (by decide) ?_
  refine lv_ixor hx hb dX12_buysBy_9 ?_
  refine lv_topi (fun x_3 e_3 => ?_)
  refine lv_iand hx hb dX12_buysBy_10 ?_
  refine lv_topi (fun x_4 e_4 => ?_)
  refine lv_istore_n (lv' := [(2, Value.int x_4), (0, Value.ref g0), (1, Value.int (nI i))]) hx hb dX12_buysBy_11 rfl hl (by decide) rfl (fun ls hl => ?_)
  have hyg : ∀ b, b < 32 → bt x_4 b = decide (i < b ∧ b < n) := fun b hb => by rw [e_4, e_3, e_2]; exact yng_bits hi hw_1 b hb
  refine lv_bipush (v := -9) hx hb dX12_buysBy_12 (by decide) ?_
  refine lv_istore_n (lv' := [(3, Value.int (-9)), (2, Value.int x_4), (0, Value.ref g0), (1, Value.int (nI i))]) hx hb dX12_buysBy_14 rfl hl (by decide) rfl (fun ls hl => ?_)
  refine lv_iconst (v := 0) hx hb dX12_buysBy_15 (by decide) ?_
  refine lv_istore (lv' := [(4, Value.int 0), (3, Value.int (-9)), (2, Value.int x_4), (0, Value.ref g0), (1, Value.int (nI i))]) hx hb dX12_buysBy_16 hl (by decide) rfl (fun ls hl => ?_)
  have lp_18 : ∀ (fu : Nat) (x : Nat) (bl : Int32) (hfu : 2 ^ n - x < fu) (hxx : x ≤ 2 ^ n) (hbl : BSM (CM n W0 (stf 1) (stf 3) i Pq) (cstm Pq n i) (us (stf 3) n i) x bl) (H : Heap) (locs : List Loc) (ls : Array Slot), va_P (dC, dI) classes [cI aC m_weight 9 wf, cI aC m_setting 5 stf, cI aC m_price 81 pf, oX12 g0 m_refused m_kind m_figure m_weight m_got m_setting (nI n) msy mdn m_tape m_letter m_letterAt m_told tp mat stm m_kept him ki crs m_price m_offer m_gets m_yes m_buys m_ends m_carried m_row rm m_keptRow m_likeGets m_likePrice m_ahead] H → va_D A [cI aC m_weight 9 wf, cI aC m_setting 5 stf, cI aC m_price 81 pf, oX12 g0 m_refused m_kind m_figure m_weight m_got m_setting (nI n) msy mdn m_tape m_letter m_letterAt m_told tp mat stm m_kept him ki crs m_price m_offer m_gets m_yes m_buys m_ends m_carried m_row rm m_keptRow m_likeGets m_likePrice m_ahead] → va_S A s.heap H locs → lv_has ls 6 [(0, Value.ref g0), (1, Value.int (nI i)), (2, Value.int x_4), (3, Value.int bl), (4, Value.int (nI x))] → W p l e (headSpec (wW yX12_buysBy cX12_buysBy 6 (some .int)) ({ frames := 1, cells := 0, slots := 0, locals := 25 } : Room)).room s m ([Value.ref g0, Value.int (nI i)] : List Value).toArray below meth c H locs 0 0 (MQ below (va_Qi (fun (r : Int32) (_ : Unit) => BYR n W0 cq (stf 1) (stf 3) i Pq r) (fun (_ : Unit) (t : State) => va_P (dC, dI) classes [oX12 g0 m_refused m_kind m_figure m_weight m_got m_setting (nI n) msy mdn m_tape m_letter m_letterAt m_told tp mat stm m_kept him ki crs m_price m_offer m_gets m_yes m_buys m_ends m_carried m_row rm m_keptRow m_likeGets m_likePrice m_ahead, cI aC m_weight 9 wf, cI aC m_setting 5 stf, cI aC m_price 81 pf] t.heap ∧ va_K (dC, dI) classes (TY aC) t ∧ va_D A [oX12 g0 m_refused m_kind m_figure m_weight m_got m_setting (nI n) msy mdn m_tape m_letter m_letterAt m_told tp mat stm m_kept him ki crs m_price m_offer m_gets m_yes m_buys m_ends m_carried m_row rm m_keptRow m_likeGets m_likePrice m_ahead, cI aC m_weight 9 wf, cI aC m_setting 5 stf, cI aC m_price 81 pf]) A) ([Value.ref g0, Value.int (nI i)] : List Value).toArray s 0 0 A) (F0 m 18 ls []) := by
    intro fu
    induction fu with
    | zero => intro x bl hfu; exact absurd hfu (Nat.not_lt_zero _)
    | succ fu ih_18 =>
      intro x bl hfu hxx hbl H locs ls hP hD hS hl
      refine lv_iload hx hb dX12_buysBy_18 (lv_at hl 4 rfl) ?_
      refine lv_iconst (v := 1) hx hb dX12_buysBy_20 (by decide) ?_
      refine lv_aload_n hx hb dX12_buysBy_21 rfl (lv_at hl 0 rfl) ?_
      refine va_get (D := (dC, dI)) (ci := 12) (v := Value.int (nI n)) (C := RX12) (T := TX12) (N := 33) hx hb hts inX12 hown hK hP 3 rfl rfl 6 (by decide) (hts _ (gw kw_723 rfl)) (fun _ h9 => h9) rfl dX12_buysBy_22 ?_
      refine lv_ishl hx hb dX12_buysBy_25 ?_
      refine lv_topi (fun x_5 e_5 => ?_)
      have h9 : x_5 = nI (2 ^ n) := by rw [e_5]; exact sh1 n (by omega)
      subst h9
      refine lv_icmp_ge (tgt := 131) hx hb dX12_buysBy_26 (by decide) (fun c_6 => ?_) (fun c_6 => ?_)
      · have hxe : x = 2 ^ n := by
          rcases Nat.lt_or_ge x (2 ^ n) with q | q
          · exact absurd c_6 (nI_ge q (by omega))
          · omega
        subst hxe
        have hfin := bm_fin hi.1 hi.2 hbl
        refine lv_iload_n hx hb dX12_buysBy_131 rfl (lv_at hl 3 rfl) ?_
        refine lv_if_lt (tgt := 154) hx hb dX12_buysBy_132 (by decide) (fun c_7 => ?_) (fun c_7 => ?_)
        · refine lv_bipush (v := -9) hx hb dX12_buysBy_154 (by decide) ?_
          have hpd9 := pd_N (cx := [oX12 g0 m_refused m_kind m_figure m_weight m_got m_setting (nI n) msy mdn m_tape m_letter m_letterAt m_told tp mat stm m_kept him ki crs m_price m_offer m_gets m_yes m_buys m_ends m_carried m_row rm m_keptRow m_likeGets m_likePrice m_ahead, cI aC m_weight 9 wf, cI aC m_setting 5 stf, cI aC m_price 81 pf]) hP hD [3, 0, 1, 2] (by decide) rfl
          have hP9 := hpd9.1
          have hD9 := hpd9.2
          refine W.widen (k := 0) (n := 0) (by omega) (by omega) ?_
          exact W.iret (v := -9) hx hb hr (fun t ht hW => ⟨⟨(-9), (), rfl, Or.inl ⟨rfl, _, (hfin.resolve_right (fun ⟨b, q1, q2, _⟩ => absurd c_7 (by rw [q2]; exact nI_pos (by omega)))).2, Or.inl rfl⟩, by rw [ht]; exact hP9, va_K.moved hW.alike hK, hD9⟩, hS.F ht⟩) hS.2.2 dX12_buysBy_156
        · obtain ⟨b, hb1, hb2, hb3, hb4⟩ := hfin.resolve_left (fun h => c_7 (by rw [h.1]; decide))
          have h9 : bl = nI b := hb2
          subst h9
          have hc2 := cstm_le (Pq := Pq) (n := n) (i := i) (s := b) hi.2 (fun q h1 h2 => (hPq q h1 h2).2)
          refine lv_aload_n hx hb dX12_buysBy_135 rfl (lv_at hl 0 rfl) ?_
          refine lv_iload_n hx hb dX12_buysBy_136 rfl (lv_at hl 1 rfl) ?_
          refine lv_iload_n hx hb dX12_buysBy_137 rfl (lv_at hl 3 rfl) ?_
          have hpd9 := pdf_N (cx := [oX12 g0 m_refused m_kind m_figure m_weight m_got m_setting (nI n) msy mdn m_tape m_letter m_letterAt m_told tp mat stm m_kept him ki crs m_price m_offer m_gets m_yes m_buys m_ends m_carried m_row rm m_keptRow m_likeGets m_likePrice m_ahead, cI aC m_price 81 pf]) hP hD hS hA [3, 2] (by decide) rfl
          have hPc := hpd9.1
          have hDc := hpd9.2.1
          have hFc := hpd9.2.2
          clear hpd9
          refine va_calli (va_runV (As := [Value.int (nI i), Value.int (nI b)]) (rest := []) ⟨hx, hb, hml, hown, hts⟩ (c_X12_costOf l dC dI aC H.size g0 m_refused m_kind m_figure m_weight m_got m_setting m_tape m_letter m_letterAt m_told m_kept m_price m_offer m_gets m_yes m_buys m_ends m_carried m_row m_keptRow m_likeGets m_likePrice m_ahead msy mdn tp mat stm him ki crs rm n pf Pq i (nI b) (hi) (hPq)) ⟨(callB_of 2 hts (gG kw_937) rfl rfl rfl (hts _ (gw kw_13 rfl)) (hts _ (gw kw_934 rfl)) hd_X12_costOf ⟨Nat.le_of_ble_eq_true rfl, Nat.le_of_ble_eq_true rfl⟩), (hts _ (gw kw_936 rfl)), (hts _ (gw ks_53 rfl))⟩ ⟨fb_std, va_recv (q := (RX12, TX12, 33)) hK hPc (ci := 12) (q0 := 0) rfl rfl, pre_std hPc hK hDc hN⟩ rfl rfl hl.1 rfl (lv_room (Nat.le_of_ble_eq_true rfl)) dX12_buysBy_138 ⟨Nat.le_of_ble_eq_true rfl, Nat.le_of_ble_eq_true rfl⟩) hS (fun q _ h => hFc q h) hFc (fun x_8 u9 t9 H1 locs ht hvm hw_8 hB hz1 hk1 hS => ?_)
          obtain ⟨hP1, hK1, hD1⟩ := hB
          rw [ht] at hP1
          clear hK1
          try dsimp only at hw_8
          have hpd9 : PDx (dC, dI) classes A H1 [cI aC m_weight 9 wf, cI aC m_setting 5 stf, oX12 g0 m_refused m_kind m_figure m_weight m_got m_setting (nI n) msy mdn m_tape m_letter m_letterAt m_told tp mat stm m_kept him ki crs m_price m_offer m_gets m_yes m_buys m_ends m_carried m_row rm m_keptRow m_likeGets m_likePrice m_ahead, cI aC m_price 81 pf] := jn_N (wr := [cI aC m_weight 9 wf, cI aC m_setting 5 stf]) hFc hk1 hP1 hD1 hP hD [3, 2] [0, 1] rfl rfl (by decide) (by decide)
          have hP := hpd9.1
          have hD := hpd9.2
          clear hpd9
          generalize H1 = H at hP hS ⊢
          clear hPc hDc hFc hz1 hk1 hP1 hD1 ht hvm
          have h9 : x_8 = nI (cstm Pq n i b) := by rw [hw_8, yw_cstm hi.2 hi.1 hb1]
          subst h9
          refine lv_aload_n hx hb dX12_buysBy_141 rfl (lv_at hl 0 rfl) ?_
          refine va_get (D := (dC, dI)) (ci := 12) (v := Value.ref m_setting) (C := RX12) (T := TX12) (N := 33) hx hb hts inX12 hown hK hP 2 rfl rfl 5 (by decide) (hts _ (gw kw_722 rfl)) (fun _ h9 => h9) rfl dX12_buysBy_142 ?_
          refine lv_iconst (v := 0) hx hb dX12_buysBy_145 (by decide) ?_
          have h_9 : vp_in 0 5 := by unfold vp_in; decide
          refine va_iald hx hb hK hP 1 0 rfl rfl h_9 dX12_buysBy_146 ?_
          refine lv_topi (fun x_10 e_10 => ?_)
          have h9 : x_10 = nI cq := by rw [e_10]; exact hcq.1
          subst h9
          refine lv_icmp_gt (tgt := 154) hx hb dX12_buysBy_147 (by decide) (fun c_11 => ?_) (fun c_11 => ?_)
          · refine lv_bipush (v := -9) hx hb dX12_buysBy_154 (by decide) ?_
            have hpd9 := pd_N (cx := [oX12 g0 m_refused m_kind m_figure m_weight m_got m_setting (nI n) msy mdn m_tape m_letter m_letterAt m_told tp mat stm m_kept him ki crs m_price m_offer m_gets m_yes m_buys m_ends m_carried m_row rm m_keptRow m_likeGets m_likePrice m_ahead, cI aC m_weight 9 wf, cI aC m_setting 5 stf, cI aC m_price 81 pf]) hP hD [2, 0, 1, 3] (by decide) rfl
            have hP9 := hpd9.1
            have hD9 := hpd9.2
            refine W.widen (k := 0) (n := 0) (by omega) (by omega) ?_
            exact W.iret (v := -9) hx hb hr (fun t ht hW => ⟨⟨(-9), (), rfl, Or.inl ⟨rfl, _, hb4, Or.inr ⟨_, us_lt, rfl, by rw [cst_us hi.1 hi.2]; exact (nI_ltI (by omega) (by omega)).mp c_11⟩⟩, by rw [ht]; exact hP9, va_K.moved hW.alike hK, hD9⟩, hS.F ht⟩) hS.2.2 dX12_buysBy_156
          · refine lv_iload_n hx hb dX12_buysBy_150 rfl (lv_at hl 3 rfl) ?_
            refine lv_goto (tgt := 156) hx hb dX12_buysBy_151 (by decide) ?_
            have hpd9 := pd_N (cx := [oX12 g0 m_refused m_kind m_figure m_weight m_got m_setting (nI n) msy mdn m_tape m_letter m_letterAt m_told tp mat stm m_kept him ki crs m_price m_offer m_gets m_yes m_buys m_ends m_carried m_row rm m_keptRow m_likeGets m_likePrice m_ahead, cI aC m_weight 9 wf, cI aC m_setting 5 stf, cI aC m_price 81 pf]) hP hD [2, 0, 1, 3] (by decide) rfl
            have hP9 := hpd9.1
            have hD9 := hpd9.2
            refine W.widen (k := 0) (n := 0) (by omega) (by omega) ?_
            exact W.iret (v := nI b) hx hb hr (fun t ht hW => ⟨⟨(nI b), (), rfl, Or.inr ⟨b, hb1, rfl, hb3, hb4, by rcases Nat.lt_or_ge cq (cstm Pq n i b) with q | q <;> first | exact q | exact absurd (nI_lt q (by omega)) c_11⟩, by rw [ht]; exact hP9, va_K.moved hW.alike hK, hD9⟩, hS.F ht⟩) hS.2.2 dX12_buysBy_156
      · have hlx : x < 2 ^ n := by
          rcases Nat.lt_or_ge x (2 ^ n) with q | q
          · exact q
          · exact absurd (nI_le q (by omega)) c_6
        refine lv_iload hx hb dX12_buysBy_29 (lv_at hl 4 rfl) ?_
        refine lv_iload_n hx hb dX12_buysBy_31 rfl (lv_at hl 2 rfl) ?_
        refine lv_iconst (v := -1) hx hb dX12_buysBy_32 (by decide) ?_
        refine lv_ixor hx hb dX12_buysBy_33 ?_
        refine lv_topi (fun x_12 e_12 => ?_)
        refine lv_iand hx hb dX12_buysBy_34 ?_
        refine lv_topi (fun x_13 e_13 => ?_)
        refine lv_if_ne (tgt := 125) hx hb dX12_buysBy_35 (by decide) (fun c_14 => ?_) (fun c_14 => ?_)
        · have hbn := BSM_no (x := x) hbl (fun q => c_14 (by rw [e_13, e_12]; exact (bnd_mask hi hlx hyg).mpr q.1))
          obtain ⟨x_15, e_15⟩ : ∃ y : Int32, y = (nI x) + 1 := ⟨_, rfl⟩
          refine lv_iinc (v := x_15) (lv' := [(4, Value.int x_15), (0, Value.ref g0), (1, Value.int (nI i)), (2, Value.int x_4), (3, Value.int bl)]) hx hb dX12_buysBy_125 hl (k := 4) rfl (by rw [e_15]; rfl) (by decide) rfl (fun ls hl => ?_)
          have h9 : x_15 = nI (x + 1) := by rw [e_15, nI_1]
          subst h9
          refine lv_goto (tgt := 18) hx hb dX12_buysBy_128 (by decide) ?_
          exact ih_18 (x + 1) bl (by omega) (by omega) (hbn) _ _ _ (hP.sub [0, 1, 2, 3] rfl) (hD.sub [0, 1, 2, 3] (by decide) rfl) hS (lv_sub hl [1, 2, 3, 4, 0] rfl)
        · have hB : BND n i x := (bnd_mask hi hlx hyg).mp (by rw [← e_12, ← e_13]; exact c_14)
          refine lv_aload_n hx hb dX12_buysBy_38 rfl (lv_at hl 0 rfl) ?_
          refine va_get (D := (dC, dI)) (ci := 12) (v := Value.ref m_setting) (C := RX12) (T := TX12) (N := 33) hx hb hts inX12 hown hK hP 3 rfl rfl 5 (by decide) (hts _ (gw kw_722 rfl)) (fun _ h9 => h9) rfl dX12_buysBy_39 ?_
          refine lv_iconst (v := 1) hx hb dX12_buysBy_42 (by decide) ?_
          have h_16 : vp_in 1 5 := by unfold vp_in; decide
          refine va_iald hx hb hK hP 1 0 rfl rfl h_16 dX12_buysBy_43 ?_
          refine lv_topi (fun x_17 e_17 => ?_)
          have h9 : x_17 = (stf 1) := by rw [e_17]; rfl
          subst h9
          refine lv_aload_n hx hb dX12_buysBy_44 rfl (lv_at hl 0 rfl) ?_
          refine lv_iload hx hb dX12_buysBy_45 (lv_at hl 4 rfl) ?_
          refine lv_aload_n hx hb dX12_buysBy_47 rfl (lv_at hl 0 rfl) ?_
          refine lv_iload_n hx hb dX12_buysBy_48 rfl (lv_at hl 1 rfl) ?_
          have hpd9 := pdf_N (cx := [oX12 g0 m_refused m_kind m_figure m_weight m_got m_setting (nI n) msy mdn m_tape m_letter m_letterAt m_told tp mat stm m_kept him ki crs m_price m_offer m_gets m_yes m_buys m_ends m_carried m_row rm m_keptRow m_likeGets m_likePrice m_ahead, cI aC m_price 81 pf]) hP hD hS hA [3, 2] (by decide) rfl
          have hPc := hpd9.1
          have hDc := hpd9.2.1
          have hFc := hpd9.2.2
          clear hpd9
          refine va_calli (va_runV (As := [Value.int (nI i)]) (rest := [Value.int (nI x), Value.ref g0, Value.int (stf 1)]) ⟨hx, hb, hml, hown, hts⟩ (c_X12_unbought l dC dI aC H.size g0 m_refused m_kind m_figure m_weight m_got m_setting m_tape m_letter m_letterAt m_told m_kept m_price m_offer m_gets m_yes m_buys m_ends m_carried m_row m_keptRow m_likeGets m_likePrice m_ahead msy mdn tp mat stm him ki crs rm n pf Pq i (hi) (hPq)) ⟨(callB_of 1 hts (gG kw_926) rfl rfl rfl (hts _ (gw kw_13 rfl)) (hts _ (gw kw_923 rfl)) hd_X12_unbought ⟨Nat.le_of_ble_eq_true rfl, Nat.le_of_ble_eq_true rfl⟩), (hts _ (gw kw_925 rfl)), (hts _ (gw ks_51 rfl))⟩ ⟨fb_std, va_recv (q := (RX12, TX12, 33)) hK hPc (ci := 12) (q0 := 0) rfl rfl, pre_std hPc hK hDc hN⟩ rfl rfl hl.1 rfl (lv_room (Nat.le_of_ble_eq_true rfl)) dX12_buysBy_49 ⟨Nat.le_of_ble_eq_true rfl, Nat.le_of_ble_eq_true rfl⟩) hS (fun q _ h => hFc q h) hFc (fun x_18 u9 t9 H1 locs ht hvm hw_18 hB hz1 hk1 hS => ?_)
          obtain ⟨hP1, hK1, hD1⟩ := hB
          rw [ht] at hP1
          clear hK1
          try dsimp only at hw_18
          have hpd9 : PDx (dC, dI) classes A H1 [cI aC m_weight 9 wf, cI aC m_setting 5 stf, oX12 g0 m_refused m_kind m_figure m_weight m_got m_setting (nI n) msy mdn m_tape m_letter m_letterAt m_told tp mat stm m_kept him ki crs m_price m_offer m_gets m_yes m_buys m_ends m_carried m_row rm m_keptRow m_likeGets m_likePrice m_ahead, cI aC m_price 81 pf] := jn_N (wr := [cI aC m_weight 9 wf, cI aC m_setting 5 stf]) hFc hk1 hP1 hD1 hP hD [3, 2] [0, 1] rfl rfl (by decide) (by decide)
          have hP := hpd9.1
          have hD := hpd9.2
          clear hpd9
          generalize H1 = H at hP hS ⊢
          clear hPc hDc hFc hz1 hk1 hP1 hD1 ht hvm
          refine lv_ior hx hb dX12_buysBy_52 ?_
          refine lv_topi (fun x_19 e_19 => ?_)
          refine lv_iconst (v := 1) hx hb dX12_buysBy_53 (by decide) ?_
          refine lv_iload_n hx hb dX12_buysBy_54 rfl (lv_at hl 1 rfl) ?_
          refine lv_ishl hx hb dX12_buysBy_55 ?_
          refine lv_topi (fun x_20 e_20 => ?_)
          refine lv_ior hx hb dX12_buysBy_56 ?_
          refine lv_topi (fun x_21 e_21 => ?_)
          have hWT := wt_us (W := W0) (fst := stf 3) hi.1 hi.2 hB (wx_bits hi hlx hw_18 (e_21.trans (by rw [e_20, e_19])))
          have hy9 := yw_le (W := W0) (y := x_21) (a := 0) (k := n) (fun j q => (hw.2 j q).2) (by omega) hw.1
          rw [hWT] at hy9
          have hpd9 := pdf_N (cx := [oX12 g0 m_refused m_kind m_figure m_weight m_got m_setting (nI n) msy mdn m_tape m_letter m_letterAt m_told tp mat stm m_kept him ki crs m_price m_offer m_gets m_yes m_buys m_ends m_carried m_row rm m_keptRow m_likeGets m_likePrice m_ahead, cI aC m_weight 9 wf]) hP hD hS hA [2, 0] (by decide) rfl
          have hPc := hpd9.1
          have hDc := hpd9.2.1
          have hFc := hpd9.2.2
          clear hpd9
          refine va_calli (va_runV (As := [Value.int x_21]) (rest := [Value.int (stf 1)]) ⟨hx, hb, hml, hown, hts⟩ (c_X12_weightOf l dC dI aC H.size g0 m_refused m_kind m_figure m_weight m_got m_setting m_tape m_letter m_letterAt m_told m_kept m_price m_offer m_gets m_yes m_buys m_ends m_carried m_row m_keptRow m_likeGets m_likePrice m_ahead msy mdn tp mat stm him ki crs rm n wf W0 x_21 (hw)) ⟨(callB_of 1 hts (gG kw_930) rfl rfl rfl (hts _ (gw kw_13 rfl)) (hts _ (gw kw_927 rfl)) hd_X12_weightOf ⟨Nat.le_of_ble_eq_true rfl, Nat.le_of_ble_eq_true rfl⟩), (hts _ (gw kw_929 rfl)), (hts _ (gw ks_52 rfl))⟩ ⟨fb_std, va_recv (q := (RX12, TX12, 33)) hK hPc (ci := 12) (q0 := 0) rfl rfl, pre_std hPc hK hDc hN⟩ rfl rfl hl.1 rfl (lv_room (Nat.le_of_ble_eq_true rfl)) dX12_buysBy_57 ⟨Nat.le_of_ble_eq_true rfl, Nat.le_of_ble_eq_true rfl⟩) hS (fun q _ h => hFc q h) hFc (fun x_22 u9 t9 H1 locs ht hvm hw_22 hB hz1 hk1 hS => ?_)
          obtain ⟨hP1, hK1, hD1⟩ := hB
          rw [ht] at hP1
          clear hK1
          try dsimp only at hw_22
          have hpd9 : PDx (dC, dI) classes A H1 [cI aC m_setting 5 stf, cI aC m_price 81 pf, oX12 g0 m_refused m_kind m_figure m_weight m_got m_setting (nI n) msy mdn m_tape m_letter m_letterAt m_told tp mat stm m_kept him ki crs m_price m_offer m_gets m_yes m_buys m_ends m_carried m_row rm m_keptRow m_likeGets m_likePrice m_ahead, cI aC m_weight 9 wf] := jn_N (wr := [cI aC m_setting 5 stf, cI aC m_price 81 pf]) hFc hk1 hP1 hD1 hP hD [2, 0] [1, 3] rfl rfl (by decide) (by decide)
          have hP := hpd9.1
          have hD := hpd9.2
          clear hpd9
          generalize H1 = H at hP hS ⊢
          clear hPc hDc hFc hz1 hk1 hP1 hD1 ht hvm
          have h9 : x_22 = nI (W0 i + sumr (frf (stf 3) n i Pq W0) 0 (n - 1 - i) + cst (uwf (stf 3) n i Pq W0) (us (stf 3) n i x)) := by rw [hw_22, hWT]
          subst h9
          refine lv_aload_n hx hb dX12_buysBy_60 rfl (lv_at hl 0 rfl) ?_
          refine lv_aload_n hx hb dX12_buysBy_61 rfl (lv_at hl 0 rfl) ?_
          refine lv_iload_n hx hb dX12_buysBy_62 rfl (lv_at hl 1 rfl) ?_
          have hpd9 := pdf_N (cx := [oX12 g0 m_refused m_kind m_figure m_weight m_got m_setting (nI n) msy mdn m_tape m_letter m_letterAt m_told tp mat stm m_kept him ki crs m_price m_offer m_gets m_yes m_buys m_ends m_carried m_row rm m_keptRow m_likeGets m_likePrice m_ahead]) hP hD hS hA [2] (by decide) rfl
          have hPc := hpd9.1
          have hDc := hpd9.2.1
          have hFc := hpd9.2.2
          clear hpd9
          refine va_calli (va_runV (As := [Value.int (nI i)]) (rest := [Value.ref g0, Value.int (nI (W0 i + sumr (frf (stf 3) n i Pq W0) 0 (n - 1 - i) + cst (uwf (stf 3) n i Pq W0) (us (stf 3) n i x))), Value.int (stf 1)]) ⟨hx, hb, hml, hown, hts⟩ (c_X12_leftFrom l dC dI aC H.size g0 m_refused m_kind m_figure m_weight m_got m_setting m_tape m_letter m_letterAt m_told m_kept m_price m_offer m_gets m_yes m_buys m_ends m_carried m_row m_keptRow m_likeGets m_likePrice m_ahead msy mdn tp mat stm him ki crs rm n i (by omega)) ⟨(callB_of 1 hts (gG kw_922) rfl rfl rfl (hts _ (gw kw_13 rfl)) (hts _ (gw kw_919 rfl)) hd_X12_leftFrom ⟨Nat.le_of_ble_eq_true rfl, Nat.le_of_ble_eq_true rfl⟩), (hts _ (gw kw_921 rfl)), (hts _ (gw ks_50 rfl))⟩ ⟨fb_std, va_recv (q := (RX12, TX12, 33)) hK hPc (ci := 12) (q0 := 0) rfl rfl, pre_std hPc hK hDc hN⟩ rfl rfl hl.1 rfl (lv_room (Nat.le_of_ble_eq_true rfl)) dX12_buysBy_63 ⟨Nat.le_of_ble_eq_true rfl, Nat.le_of_ble_eq_true rfl⟩) hS (fun q _ h => hFc q h) hFc (fun x_23 u9 t9 H1 locs ht hvm hw_23 hB hz1 hk1 hS => ?_)
          obtain ⟨hP1, hK1, hD1⟩ := hB
          rw [ht] at hP1
          clear hK1
          try dsimp only at hw_23
          have hpd9 : PDx (dC, dI) classes A H1 [cI aC m_setting 5 stf, cI aC m_price 81 pf, cI aC m_weight 9 wf, oX12 g0 m_refused m_kind m_figure m_weight m_got m_setting (nI n) msy mdn m_tape m_letter m_letterAt m_told tp mat stm m_kept him ki crs m_price m_offer m_gets m_yes m_buys m_ends m_carried m_row rm m_keptRow m_likeGets m_likePrice m_ahead] := jn_N (wr := [cI aC m_setting 5 stf, cI aC m_price 81 pf, cI aC m_weight 9 wf]) hFc hk1 hP1 hD1 hP hD [2] [0, 1, 3] rfl rfl (by decide) (by decide)
          have hP := hpd9.1
          have hD := hpd9.2
          clear hpd9
          generalize H1 = H at hP hS ⊢
          clear hPc hDc hFc hz1 hk1 hP1 hD1 ht hvm
          have hpd9 := pdf_N (cx := [oX12 g0 m_refused m_kind m_figure m_weight m_got m_setting (nI n) msy mdn m_tape m_letter m_letterAt m_told tp mat stm m_kept him ki crs m_price m_offer m_gets m_yes m_buys m_ends m_carried m_row rm m_keptRow m_likeGets m_likePrice m_ahead, cI aC m_weight 9 wf]) hP hD hS hA [3, 2] (by decide) rfl
          have hPc := hpd9.1
          have hDc := hpd9.2.1
          have hFc := hpd9.2.2
          clear hpd9
          refine va_calli (va_runV (As := [Value.int x_23]) (rest := [Value.int (nI (W0 i + sumr (frf (stf 3) n i Pq W0) 0 (n - 1 - i) + cst (uwf (stf 3) n i Pq W0) (us (stf 3) n i x))), Value.int (stf 1)]) ⟨hx, hb, hml, hown, hts⟩ (c_X12_weightOf l dC dI aC H.size g0 m_refused m_kind m_figure m_weight m_got m_setting m_tape m_letter m_letterAt m_told m_kept m_price m_offer m_gets m_yes m_buys m_ends m_carried m_row m_keptRow m_likeGets m_likePrice m_ahead msy mdn tp mat stm him ki crs rm n wf W0 x_23 (hw)) ⟨(callB_of 1 hts (gG kw_930) rfl rfl rfl (hts _ (gw kw_13 rfl)) (hts _ (gw kw_927 rfl)) hd_X12_weightOf ⟨Nat.le_of_ble_eq_true rfl, Nat.le_of_ble_eq_true rfl⟩), (hts _ (gw kw_929 rfl)), (hts _ (gw ks_52 rfl))⟩ ⟨fb_std, va_recv (q := (RX12, TX12, 33)) hK hPc (ci := 12) (q0 := 0) rfl rfl, pre_std hPc hK hDc hN⟩ rfl rfl hl.1 rfl (lv_room (Nat.le_of_ble_eq_true rfl)) dX12_buysBy_66 ⟨Nat.le_of_ble_eq_true rfl, Nat.le_of_ble_eq_true rfl⟩) hS (fun q _ h => hFc q h) hFc (fun x_24 u9 t9 H1 locs ht hvm hw_24 hB hz1 hk1 hS => ?_)
          obtain ⟨hP1, hK1, hD1⟩ := hB
          rw [ht] at hP1
          clear hK1
          try dsimp only at hw_24
          have hpd9 : PDx (dC, dI) classes A H1 [cI aC m_setting 5 stf, cI aC m_price 81 pf, oX12 g0 m_refused m_kind m_figure m_weight m_got m_setting (nI n) msy mdn m_tape m_letter m_letterAt m_told tp mat stm m_kept him ki crs m_price m_offer m_gets m_yes m_buys m_ends m_carried m_row rm m_keptRow m_likeGets m_likePrice m_ahead, cI aC m_weight 9 wf] := jn_N (wr := [cI aC m_setting 5 stf, cI aC m_price 81 pf]) hFc hk1 hP1 hD1 hP hD [3, 2] [0, 1] rfl rfl (by decide) (by decide)
          have hP := hpd9.1
          have hD := hpd9.2
          clear hpd9
          generalize H1 = H at hP hS ⊢
          clear hPc hDc hFc hz1 hk1 hP1 hD1 ht hvm
          have h9 : x_24 = nI (sumr W0 i (n - i)) := by rw [hw_24, yw_left (by omega) hi.2 hw_23]
          subst h9
          have hpd9 := pdf_N (cx := []) hP hD hS hA [] (by decide) rfl
          have hPc := hpd9.1
          have hDc := hpd9.2.1
          have hFc := hpd9.2.2
          clear hpd9
          refine va_calli (va_runS (As := [Value.int (stf 1), Value.int (nI (W0 i + sumr (frf (stf 3) n i Pq W0) 0 (n - 1 - i) + cst (uwf (stf 3) n i Pq W0) (us (stf 3) n i x))), Value.int (nI (sumr W0 i (n - i)))]) (rest := []) ⟨hx, hb, hml, hown, hts⟩ (c_X12_isCarried l dC dI aC H.size (stf 1) (W0 i + sumr (frf (stf 3) n i Pq W0) 0 (n - 1 - i) + cst (uwf (stf 3) n i Pq W0) (us (stf 3) n i x)) (sumr W0 i (n - i)) (by omega) (by omega)) ⟨(callB_of 3 hts (gG kw_933) rfl rfl rfl (hts _ (gw kw_13 rfl)) (hts _ (gw kw_931 rfl)) hd_X12_isCarried ⟨Nat.le_of_ble_eq_true rfl, Nat.le_of_ble_eq_true rfl⟩), (hts _ (gw kw_932 rfl))⟩ ⟨fb_std, pre_std hPc hK hDc hN⟩ rfl rfl hl.1 rfl (lv_room (Nat.le_of_ble_eq_true rfl)) dX12_buysBy_69 ⟨Nat.le_of_ble_eq_true rfl, Nat.le_of_ble_eq_true rfl⟩) hS (fun q _ h => hFc q h) hFc (fun x_25 u9 t9 H1 locs ht hvm hw_25 hB hz1 hk1 hS => ?_)
          obtain ⟨hP1, hK1, hD1⟩ := hB
          rw [ht] at hP1
          clear hK1
          try dsimp only at hw_25
          have hpd9 : PDx (dC, dI) classes A H1 [cI aC m_setting 5 stf, cI aC m_price 81 pf, oX12 g0 m_refused m_kind m_figure m_weight m_got m_setting (nI n) msy mdn m_tape m_letter m_letterAt m_told tp mat stm m_kept him ki crs m_price m_offer m_gets m_yes m_buys m_ends m_carried m_row rm m_keptRow m_likeGets m_likePrice m_ahead, cI aC m_weight 9 wf] := jn_N (wr := [cI aC m_setting 5 stf, cI aC m_price 81 pf, oX12 g0 m_refused m_kind m_figure m_weight m_got m_setting (nI n) msy mdn m_tape m_letter m_letterAt m_told tp mat stm m_kept him ki crs m_price m_offer m_gets m_yes m_buys m_ends m_carried m_row rm m_keptRow m_likeGets m_likePrice m_ahead, cI aC m_weight 9 wf]) hFc hk1 hP1 hD1 hP hD [] [0, 1, 2, 3] rfl rfl (by decide) (by decide)
          have hP := hpd9.1
          have hD := hpd9.2
          clear hpd9
          generalize H1 = H at hP hS ⊢
          clear hPc hDc hFc hz1 hk1 hP1 hD1 ht hvm
          have hz_69 := hw_25
          refine lv_if_ne (tgt := 78) hx hb dX12_buysBy_72 (by decide) (fun c_26 => ?_) (fun c_26 => ?_)
          · have hC : (CM n W0 (stf 1) (stf 3) i Pq) x := ⟨hB, by
              by_cases q : nd (stf 1) (sumr W0 i (n - i)) ≤ (W0 i + sumr (frf (stf 3) n i Pq W0) 0 (n - 1 - i) + cst (uwf (stf 3) n i Pq W0) (us (stf 3) n i x))
              · exact q
              · exact absurd (by rw [hz_69, if_neg q]) c_26⟩
            refine lv_iload_n hx hb dX12_buysBy_78 rfl (lv_at hl 3 rfl) ?_
            refine lv_if_ge (tgt := 86) hx hb dX12_buysBy_79 (by decide) (fun c_27 => ?_) (fun c_27 => ?_)
            · obtain ⟨b, hb1, hb2, hb3, hb4⟩ := hbl.resolve_left (fun h => absurd c_27 (by rw [h.1]; decide))
              have h9 : bl = nI b := hb2
              subst h9
              have hc1 := cstm_le (Pq := Pq) (n := n) (i := i) (s := x) hi.2 (fun q h1 h2 => (hPq q h1 h2).2)
              have hc2 := cstm_le (Pq := Pq) (n := n) (i := i) (s := b) hi.2 (fun q h1 h2 => (hPq q h1 h2).2)
              refine lv_aload_n hx hb dX12_buysBy_86 rfl (lv_at hl 0 rfl) ?_
              refine lv_iload_n hx hb dX12_buysBy_87 rfl (lv_at hl 1 rfl) ?_
              refine lv_iload hx hb dX12_buysBy_88 (lv_at hl 4 rfl) ?_
              have hpd9 := pdf_N (cx := [oX12 g0 m_refused m_kind m_figure m_weight m_got m_setting (nI n) msy mdn m_tape m_letter m_letterAt m_told tp mat stm m_kept him ki crs m_price m_offer m_gets m_yes m_buys m_ends m_carried m_row rm m_keptRow m_likeGets m_likePrice m_ahead, cI aC m_price 81 pf]) hP hD hS hA [2, 1] (by decide) rfl
              have hPc := hpd9.1
              have hDc := hpd9.2.1
              have hFc := hpd9.2.2
              clear hpd9
              refine va_calli (va_runV (As := [Value.int (nI i), Value.int (nI x)]) (rest := []) ⟨hx, hb, hml, hown, hts⟩ (c_X12_costOf l dC dI aC H.size g0 m_refused m_kind m_figure m_weight m_got m_setting m_tape m_letter m_letterAt m_told m_kept m_price m_offer m_gets m_yes m_buys m_ends m_carried m_row m_keptRow m_likeGets m_likePrice m_ahead msy mdn tp mat stm him ki crs rm n pf Pq i (nI x) (hi) (hPq)) ⟨(callB_of 2 hts (gG kw_937) rfl rfl rfl (hts _ (gw kw_13 rfl)) (hts _ (gw kw_934 rfl)) hd_X12_costOf ⟨Nat.le_of_ble_eq_true rfl, Nat.le_of_ble_eq_true rfl⟩), (hts _ (gw kw_936 rfl)), (hts _ (gw ks_53 rfl))⟩ ⟨fb_std, va_recv (q := (RX12, TX12, 33)) hK hPc (ci := 12) (q0 := 0) rfl rfl, pre_std hPc hK hDc hN⟩ rfl rfl hl.1 rfl (lv_room (Nat.le_of_ble_eq_true rfl)) dX12_buysBy_90 ⟨Nat.le_of_ble_eq_true rfl, Nat.le_of_ble_eq_true rfl⟩) hS (fun q _ h => hFc q h) hFc (fun x_28 u9 t9 H1 locs ht hvm hw_28 hB hz1 hk1 hS => ?_)
              obtain ⟨hP1, hK1, hD1⟩ := hB
              rw [ht] at hP1
              clear hK1
              try dsimp only at hw_28
              have hpd9 : PDx (dC, dI) classes A H1 [cI aC m_setting 5 stf, cI aC m_weight 9 wf, oX12 g0 m_refused m_kind m_figure m_weight m_got m_setting (nI n) msy mdn m_tape m_letter m_letterAt m_told tp mat stm m_kept him ki crs m_price m_offer m_gets m_yes m_buys m_ends m_carried m_row rm m_keptRow m_likeGets m_likePrice m_ahead, cI aC m_price 81 pf] := jn_N (wr := [cI aC m_setting 5 stf, cI aC m_weight 9 wf]) hFc hk1 hP1 hD1 hP hD [2, 1] [0, 3] rfl rfl (by decide) (by decide)
              have hP := hpd9.1
              have hD := hpd9.2
              clear hpd9
              generalize H1 = H at hP hS ⊢
              clear hPc hDc hFc hz1 hk1 hP1 hD1 ht hvm
              have h9 : x_28 = nI (cstm Pq n i x) := by rw [hw_28, yw_cstm hi.2 hi.1 hlx]
              subst h9
              refine lv_aload_n hx hb dX12_buysBy_93 rfl (lv_at hl 0 rfl) ?_
              refine lv_iload_n hx hb dX12_buysBy_94 rfl (lv_at hl 1 rfl) ?_
              refine lv_iload_n hx hb dX12_buysBy_95 rfl (lv_at hl 3 rfl) ?_
              have hpd9 := pdf_N (cx := [oX12 g0 m_refused m_kind m_figure m_weight m_got m_setting (nI n) msy mdn m_tape m_letter m_letterAt m_told tp mat stm m_kept him ki crs m_price m_offer m_gets m_yes m_buys m_ends m_carried m_row rm m_keptRow m_likeGets m_likePrice m_ahead, cI aC m_price 81 pf]) hP hD hS hA [2, 3] (by decide) rfl
              have hPc := hpd9.1
              have hDc := hpd9.2.1
              have hFc := hpd9.2.2
              clear hpd9
              refine va_calli (va_runV (As := [Value.int (nI i), Value.int (nI b)]) (rest := [Value.int (nI (cstm Pq n i x))]) ⟨hx, hb, hml, hown, hts⟩ (c_X12_costOf l dC dI aC H.size g0 m_refused m_kind m_figure m_weight m_got m_setting m_tape m_letter m_letterAt m_told m_kept m_price m_offer m_gets m_yes m_buys m_ends m_carried m_row m_keptRow m_likeGets m_likePrice m_ahead msy mdn tp mat stm him ki crs rm n pf Pq i (nI b) (hi) (hPq)) ⟨(callB_of 2 hts (gG kw_937) rfl rfl rfl (hts _ (gw kw_13 rfl)) (hts _ (gw kw_934 rfl)) hd_X12_costOf ⟨Nat.le_of_ble_eq_true rfl, Nat.le_of_ble_eq_true rfl⟩), (hts _ (gw kw_936 rfl)), (hts _ (gw ks_53 rfl))⟩ ⟨fb_std, va_recv (q := (RX12, TX12, 33)) hK hPc (ci := 12) (q0 := 0) rfl rfl, pre_std hPc hK hDc hN⟩ rfl rfl hl.1 rfl (lv_room (Nat.le_of_ble_eq_true rfl)) dX12_buysBy_96 ⟨Nat.le_of_ble_eq_true rfl, Nat.le_of_ble_eq_true rfl⟩) hS (fun q _ h => hFc q h) hFc (fun x_29 u9 t9 H1 locs ht hvm hw_29 hB hz1 hk1 hS => ?_)
              obtain ⟨hP1, hK1, hD1⟩ := hB
              rw [ht] at hP1
              clear hK1
              try dsimp only at hw_29
              have hpd9 : PDx (dC, dI) classes A H1 [cI aC m_setting 5 stf, cI aC m_weight 9 wf, oX12 g0 m_refused m_kind m_figure m_weight m_got m_setting (nI n) msy mdn m_tape m_letter m_letterAt m_told tp mat stm m_kept him ki crs m_price m_offer m_gets m_yes m_buys m_ends m_carried m_row rm m_keptRow m_likeGets m_likePrice m_ahead, cI aC m_price 81 pf] := jn_N (wr := [cI aC m_setting 5 stf, cI aC m_weight 9 wf]) hFc hk1 hP1 hD1 hP hD [2, 3] [0, 1] rfl rfl (by decide) (by decide)
              have hP := hpd9.1
              have hD := hpd9.2
              clear hpd9
              generalize H1 = H at hP hS ⊢
              clear hPc hDc hFc hz1 hk1 hP1 hD1 ht hvm
              have h9 : x_29 = nI (cstm Pq n i b) := by rw [hw_29, yw_cstm hi.2 hi.1 (by omega)]
              subst h9
              refine lv_isub hx hb dX12_buysBy_99 ?_
              refine lv_topi (fun x_30 e_30 => ?_)
              have h9 : x_30 = iI ((cstm Pq n i x : Int) - cstm Pq n i b) := by rw [e_30, nI_iI, nI_iI, iI_sub]
              subst h9
              refine lv_istore (lv' := [(5, Value.int (iI ((cstm Pq n i x : Int) - cstm Pq n i b))), (0, Value.ref g0), (1, Value.int (nI i)), (2, Value.int x_4), (3, Value.int (nI b)), (4, Value.int (nI x))]) hx hb dX12_buysBy_100 hl (by decide) rfl (fun ls hl => ?_)
              refine lv_iload hx hb dX12_buysBy_102 (lv_at hl 0 rfl) ?_
              refine lv_if_lt (tgt := 122) hx hb dX12_buysBy_104 (by decide) (fun c_31 => ?_) (fun c_31 => ?_)
              · refine lv_iload hx hb dX12_buysBy_122 (lv_at hl 5 rfl) ?_
                refine lv_istore_n (lv' := [(3, Value.int (nI x)), (5, Value.int (iI ((cstm Pq n i x : Int) - cstm Pq n i b))), (0, Value.ref g0), (1, Value.int (nI i)), (2, Value.int x_4), (4, Value.int (nI x))]) hx hb dX12_buysBy_124 rfl hl (by decide) rfl (fun ls hl => ?_)
                have hd1 : cstm Pq n i x < cstm Pq n i b := by have h9 := c_31; rw [← iI_0, iI_lt (by unfold sm; omega) sm0] at h9; omega
                have hbn := BSM_take hb4 hC (Or.inl hd1)
                obtain ⟨x_32, e_32⟩ : ∃ y : Int32, y = (nI x) + 1 := ⟨_, rfl⟩
                refine lv_iinc (v := x_32) (lv' := [(4, Value.int x_32), (3, Value.int (nI x)), (5, Value.int (iI ((cstm Pq n i x : Int) - cstm Pq n i b))), (0, Value.ref g0), (1, Value.int (nI i)), (2, Value.int x_4)]) hx hb dX12_buysBy_125 hl (k := 5) rfl (by rw [e_32]; rfl) (by decide) rfl (fun ls hl => ?_)
                have h9 : x_32 = nI (x + 1) := by rw [e_32, nI_1]
                subst h9
                refine lv_goto (tgt := 18) hx hb dX12_buysBy_128 (by decide) ?_
                exact ih_18 (x + 1) (nI x) (by omega) (by omega) (hbn) _ _ _ (hP.sub [1, 0, 3, 2] rfl) (hD.sub [1, 0, 3, 2] (by decide) rfl) hS (lv_sub hl [3, 4, 5, 1, 0] rfl)
              · refine lv_iload hx hb dX12_buysBy_107 (lv_at hl 0 rfl) ?_
                refine lv_if_ne (tgt := 125) hx hb dX12_buysBy_109 (by decide) (fun c_33 => ?_) (fun c_33 => ?_)
                · have hd1 : ¬ cstm Pq n i x < cstm Pq n i b := by have h9 := c_31; rw [← iI_0, iI_lt (by unfold sm; omega) sm0] at h9; omega
                  have hd2 : ¬ cstm Pq n i x = cstm Pq n i b := fun q => c_33 (by rw [q, Int.sub_self]; rfl)
                  have hbn := BSM_dear (bl := nI b) hb1 rfl hb3 hb4 (Or.inl (by omega))
                  obtain ⟨x_34, e_34⟩ : ∃ y : Int32, y = (nI x) + 1 := ⟨_, rfl⟩
                  refine lv_iinc (v := x_34) (lv' := [(4, Value.int x_34), (5, Value.int (iI ((cstm Pq n i x : Int) - cstm Pq n i b))), (0, Value.ref g0), (1, Value.int (nI i)), (2, Value.int x_4), (3, Value.int (nI b))]) hx hb dX12_buysBy_125 hl (k := 5) rfl (by rw [e_34]; rfl) (by decide) rfl (fun ls hl => ?_)
                  have h9 : x_34 = nI (x + 1) := by rw [e_34, nI_1]
                  subst h9
                  refine lv_goto (tgt := 18) hx hb dX12_buysBy_128 (by decide) ?_
                  exact ih_18 (x + 1) (nI b) (by omega) (by omega) (hbn) _ _ _ (hP.sub [1, 0, 3, 2] rfl) (hD.sub [1, 0, 3, 2] (by decide) rfl) hS (lv_sub hl [2, 3, 4, 5, 0] rfl)
                · refine lv_aload_n hx hb dX12_buysBy_112 rfl (lv_at hl 1 rfl) ?_
                  refine lv_iload hx hb dX12_buysBy_113 (lv_at hl 5 rfl) ?_
                  refine lv_iload_n hx hb dX12_buysBy_115 rfl (lv_at hl 4 rfl) ?_
                  have hpd9 := pdf_N (cx := [oX12 g0 m_refused m_kind m_figure m_weight m_got m_setting (nI n) msy mdn m_tape m_letter m_letterAt m_told tp mat stm m_kept him ki crs m_price m_offer m_gets m_yes m_buys m_ends m_carried m_row rm m_keptRow m_likeGets m_likePrice m_ahead, cI aC m_setting 5 stf]) hP hD hS hA [2, 0] (by decide) rfl
                  have hPc := hpd9.1
                  have hDc := hpd9.2.1
                  have hFc := hpd9.2.2
                  clear hpd9
                  refine va_calli (va_runV (As := [Value.int (nI x), Value.int (nI b)]) (rest := []) ⟨hx, hb, hml, hown, hts⟩ (c_X12_isAhead l dC dI aC H.size g0 m_refused m_kind m_figure m_weight m_got m_setting m_tape m_letter m_letterAt m_told m_kept m_price m_offer m_gets m_yes m_buys m_ends m_carried m_row m_keptRow m_likeGets m_likePrice m_ahead msy mdn tp mat stm him ki crs rm n stf i x b (hi) (⟨hlx, hB⟩) (⟨by omega, hb3.1⟩)) ⟨(callB_of 2 hts (gG kw_941) rfl rfl rfl (hts _ (gw kw_13 rfl)) (hts _ (gw kw_938 rfl)) hd_X12_isAhead ⟨Nat.le_of_ble_eq_true rfl, Nat.le_of_ble_eq_true rfl⟩), (hts _ (gw kw_940 rfl)), (hts _ (gw ks_54 rfl))⟩ ⟨fb_std, va_recv (q := (RX12, TX12, 33)) hK hPc (ci := 12) (q0 := 0) rfl rfl, pre_std hPc hK hDc hN⟩ rfl rfl hl.1 rfl (lv_room (Nat.le_of_ble_eq_true rfl)) dX12_buysBy_116 ⟨Nat.le_of_ble_eq_true rfl, Nat.le_of_ble_eq_true rfl⟩) hS (fun q _ h => hFc q h) hFc (fun x_35 u9 t9 H1 locs ht hvm hw_35 hB hz1 hk1 hS => ?_)
                  obtain ⟨hP1, hK1, hD1⟩ := hB
                  rw [ht] at hP1
                  clear hK1
                  try dsimp only at hw_35
                  have hpd9 : PDx (dC, dI) classes A H1 [cI aC m_weight 9 wf, cI aC m_price 81 pf, oX12 g0 m_refused m_kind m_figure m_weight m_got m_setting (nI n) msy mdn m_tape m_letter m_letterAt m_told tp mat stm m_kept him ki crs m_price m_offer m_gets m_yes m_buys m_ends m_carried m_row rm m_keptRow m_likeGets m_likePrice m_ahead, cI aC m_setting 5 stf] := jn_N (wr := [cI aC m_weight 9 wf, cI aC m_price 81 pf]) hFc hk1 hP1 hD1 hP hD [2, 0] [1, 3] rfl rfl (by decide) (by decide)
                  have hP := hpd9.1
                  have hD := hpd9.2
                  clear hpd9
                  generalize H1 = H at hP hS ⊢
                  clear hPc hDc hFc hz1 hk1 hP1 hD1 ht hvm
                  have hz_116 := hw_35
                  refine lv_if_eq (tgt := 125) hx hb dX12_buysBy_119 (by decide) (fun c_36 => ?_) (fun c_36 => ?_)
                  · have hd1 : ¬ cstm Pq n i x < cstm Pq n i b := by have h9 := c_31; rw [← iI_0, iI_lt (by unfold sm; omega) sm0] at h9; omega
                    have hd2 : cstm Pq n i x = cstm Pq n i b := by have h9 := c_33; rw [← iI_0, iI_eq (by unfold sm; omega) sm0] at h9; omega
                    have hd3 : ¬ us (stf 3) n i b < us (stf 3) n i x := fun q => absurd (hz_116.symm.trans c_36) (by rw [if_pos q]; decide)
                    have hbn := BSM_dear (bl := nI b) hb1 rfl hb3 hb4 (Or.inr ⟨hd2.symm, by omega⟩)
                    obtain ⟨x_37, e_37⟩ : ∃ y : Int32, y = (nI x) + 1 := ⟨_, rfl⟩
                    refine lv_iinc (v := x_37) (lv' := [(4, Value.int x_37), (5, Value.int (iI ((cstm Pq n i x : Int) - cstm Pq n i b))), (0, Value.ref g0), (1, Value.int (nI i)), (2, Value.int x_4), (3, Value.int (nI b))]) hx hb dX12_buysBy_125 hl (k := 5) rfl (by rw [e_37]; rfl) (by decide) rfl (fun ls hl => ?_)
                    have h9 : x_37 = nI (x + 1) := by rw [e_37, nI_1]
                    subst h9
                    refine lv_goto (tgt := 18) hx hb dX12_buysBy_128 (by decide) ?_
                    exact ih_18 (x + 1) (nI b) (by omega) (by omega) (hbn) _ _ _ (hP.sub [0, 3, 1, 2] rfl) (hD.sub [0, 3, 1, 2] (by decide) rfl) hS (lv_sub hl [2, 3, 4, 5, 0] rfl)
                  · refine lv_iload hx hb dX12_buysBy_122 (lv_at hl 5 rfl) ?_
                    refine lv_istore_n (lv' := [(3, Value.int (nI x)), (5, Value.int (iI ((cstm Pq n i x : Int) - cstm Pq n i b))), (0, Value.ref g0), (1, Value.int (nI i)), (2, Value.int x_4), (4, Value.int (nI x))]) hx hb dX12_buysBy_124 rfl hl (by decide) rfl (fun ls hl => ?_)
                    have hd1 : ¬ cstm Pq n i x < cstm Pq n i b := by have h9 := c_31; rw [← iI_0, iI_lt (by unfold sm; omega) sm0] at h9; omega
                    have hd2 : cstm Pq n i x = cstm Pq n i b := by have h9 := c_33; rw [← iI_0, iI_eq (by unfold sm; omega) sm0] at h9; omega
                    have hd3 : us (stf 3) n i b < us (stf 3) n i x := by
                      by_cases q : us (stf 3) n i b < us (stf 3) n i x
                      · exact q
                      · exact absurd (by rw [hz_116, if_neg q]) c_36
                    have hbn := BSM_take hb4 hC (Or.inr ⟨hd2, by omega⟩)
                    obtain ⟨x_38, e_38⟩ : ∃ y : Int32, y = (nI x) + 1 := ⟨_, rfl⟩
                    refine lv_iinc (v := x_38) (lv' := [(4, Value.int x_38), (3, Value.int (nI x)), (5, Value.int (iI ((cstm Pq n i x : Int) - cstm Pq n i b))), (0, Value.ref g0), (1, Value.int (nI i)), (2, Value.int x_4)]) hx hb dX12_buysBy_125 hl (k := 5) rfl (by rw [e_38]; rfl) (by decide) rfl (fun ls hl => ?_)
                    have h9 : x_38 = nI (x + 1) := by rw [e_38, nI_1]
                    subst h9
                    refine lv_goto (tgt := 18) hx hb dX12_buysBy_128 (by decide) ?_
                    exact ih_18 (x + 1) (nI x) (by omega) (by omega) (hbn) _ _ _ (hP.sub [0, 3, 1, 2] rfl) (hD.sub [0, 3, 1, 2] (by decide) rfl) hS (lv_sub hl [3, 4, 5, 1, 0] rfl)
            · have hb0 := hbl.resolve_right (fun ⟨b, q1, q2, _⟩ => c_27 (by rw [q2]; exact nI_pos' (by omega)))
              refine lv_iconst (v := -1) hx hb dX12_buysBy_82 (by decide) ?_
              refine lv_goto (tgt := 100) hx hb dX12_buysBy_83 (by decide) ?_
              refine lv_istore (lv' := [(5, Value.int (-1)), (0, Value.ref g0), (1, Value.int (nI i)), (2, Value.int x_4), (3, Value.int bl), (4, Value.int (nI x))]) hx hb dX12_buysBy_100 hl (by decide) rfl (fun ls hl => ?_)
              refine lv_iload hx hb dX12_buysBy_102 (lv_at hl 0 rfl) ?_
              refine lv_if_lt (tgt := 122) hx hb dX12_buysBy_104 (by decide) (fun c_39 => ?_) (fun c_39 => ?_)
              · refine lv_iload hx hb dX12_buysBy_122 (lv_at hl 5 rfl) ?_
                refine lv_istore_n (lv' := [(3, Value.int (nI x)), (5, Value.int (-1)), (0, Value.ref g0), (1, Value.int (nI i)), (2, Value.int x_4), (4, Value.int (nI x))]) hx hb dX12_buysBy_124 rfl hl (by decide) rfl (fun ls hl => ?_)
                have hbn := BSM_first (ct := cstm Pq n i) (u := us (stf 3) n i) hb0.2 hC
                obtain ⟨x_40, e_40⟩ : ∃ y : Int32, y = (nI x) + 1 := ⟨_, rfl⟩
                refine lv_iinc (v := x_40) (lv' := [(4, Value.int x_40), (3, Value.int (nI x)), (5, Value.int (-1)), (0, Value.ref g0), (1, Value.int (nI i)), (2, Value.int x_4)]) hx hb dX12_buysBy_125 hl (k := 5) rfl (by rw [e_40]; rfl) (by decide) rfl (fun ls hl => ?_)
                have h9 : x_40 = nI (x + 1) := by rw [e_40, nI_1]
                subst h9
                refine lv_goto (tgt := 18) hx hb dX12_buysBy_128 (by decide) ?_
                exact ih_18 (x + 1) (nI x) (by omega) (by omega) (hbn) _ _ _ (hP.sub [3, 0, 1, 2] rfl) (hD.sub [3, 0, 1, 2] (by decide) rfl) hS (lv_sub hl [3, 4, 5, 1, 0] rfl)
              · exact absurd (by decide) c_39
          · refine lv_goto (tgt := 125) hx hb dX12_buysBy_75 (by decide) ?_
            have hbn := BSM_no (x := x) hbl (fun q => absurd (hz_69.symm.trans c_26) (by rw [if_pos (show nd (stf 1) (sumr W0 i (n - i)) ≤ (W0 i + sumr (frf (stf 3) n i Pq W0) 0 (n - 1 - i) + cst (uwf (stf 3) n i Pq W0) (us (stf 3) n i x)) from q.2)]; decide))
            obtain ⟨x_41, e_41⟩ : ∃ y : Int32, y = (nI x) + 1 := ⟨_, rfl⟩
            refine lv_iinc (v := x_41) (lv' := [(4, Value.int x_41), (0, Value.ref g0), (1, Value.int (nI i)), (2, Value.int x_4), (3, Value.int bl)]) hx hb dX12_buysBy_125 hl (k := 4) rfl (by rw [e_41]; rfl) (by decide) rfl (fun ls hl => ?_)
            have h9 : x_41 = nI (x + 1) := by rw [e_41, nI_1]
            subst h9
            refine lv_goto (tgt := 18) hx hb dX12_buysBy_128 (by decide) ?_
            exact ih_18 (x + 1) bl (by omega) (by omega) (hbn) _ _ _ (hP.sub [3, 0, 1, 2] rfl) (hD.sub [3, 0, 1, 2] (by decide) rfl) hS (lv_sub hl [1, 2, 3, 4, 0] rfl)
  exact lp_18 ((2 ^ n - 0) + 1) 0 (-9) (Nat.lt_succ_self _) (Nat.zero_le _) (BSM_0) _ _ _ (hP.sub [0, 1, 2, 3] rfl) (hD.sub [0, 1, 2, 3] (by decide) rfl) hS (lv_sub hl [3, 4, 2, 1, 0] rfl)

set_option maxHeartbeats 1000000 in
set_option maxRecDepth 100000 in
/-- X12_offersEach -/
theorem c_X12_offersEach (l : Launch) (dC : Nat → ClassId) (dI : Nat → Nat → Nat) (aC : Nat → ClassId) (sz : Nat) (g0 : Nat) (m_refused : Nat) (m_kind : Nat) (m_figure : Nat) (m_weight : Nat) (m_got : Nat) (m_setting : Nat) (m_tape : Nat) (m_letter : Nat) (m_letterAt : Nat) (m_told : Nat) (m_kept : Nat) (m_price : Nat) (m_offer : Nat) (m_gets : Nat) (m_yes : Nat) (m_buys : Nat) (m_ends : Nat) (m_carried : Nat) (m_row : Nat) (m_keptRow : Nat) (m_likeGets : Nat) (m_likePrice : Nat) (m_ahead : Nat) (msy : Int32) (mdn : Int32) (tp : Int32) (mat : Int32) (stm : Int32) (him : Int32) (ki : Int32) (crs : Int32) (rm : Int32) (n : Nat) (of : Nat → Int32) (i : Nat) (j : Nat) (v : Nat) (a0 : Nat) (hij : i < j ∧ j < 8) (ha : of (9 * i + i) = nI a0) (hv : v ≤ a0 ∧ a0 ≤ 99) : Met l yX12_offersEach (wW yX12_offersEach cX12_offersEach 4 (none : Option FieldType)) ({ frames := 0, cells := 0, slots := 0, locals := 0 } : Room) (va_Pc [Value.ref g0, Value.int (nI i), Value.int (nI j), Value.int (nI v)] (fun U => U.heap.size = sz ∧ va_P (dC, dI) classes [oX12 g0 m_refused m_kind m_figure m_weight m_got m_setting (nI n) msy mdn m_tape m_letter m_letterAt m_told tp mat stm m_kept him ki crs m_price m_offer m_gets m_yes m_buys m_ends m_carried m_row rm m_keptRow m_likeGets m_likePrice m_ahead, cI aC m_offer 81 of] U.heap ∧ va_K (dC, dI) classes (TY aC) U ∧ va_D (fun _ => True) [oX12 g0 m_refused m_kind m_figure m_weight m_got m_setting (nI n) msy mdn m_tape m_letter m_letterAt m_told tp mat stm m_kept him ki crs m_price m_offer m_gets m_yes m_buys m_ends m_carried m_row rm m_keptRow m_likeGets m_likePrice m_ahead, cI aC m_offer 81 of] ∧ NX U)) (va_Qv (fun (of2 : Nat → Int32) => of2 = upd (upd of (9 * i + j) (nI v)) (9 * i + i) (nI (a0 - v))) (fun (of2 : Nat → Int32) (t : State) => va_P (dC, dI) classes [oX12 g0 m_refused m_kind m_figure m_weight m_got m_setting (nI n) msy mdn m_tape m_letter m_letterAt m_told tp mat stm m_kept him ki crs m_price m_offer m_gets m_yes m_buys m_ends m_carried m_row rm m_keptRow m_likeGets m_likePrice m_ahead, cI aC m_offer 81 of2] t.heap ∧ va_K (dC, dI) classes (TY aC) t ∧ va_D (va_A [oX12 g0 m_refused m_kind m_figure m_weight m_got m_setting (nI n) msy mdn m_tape m_letter m_letterAt m_told tp mat stm m_kept him ki crs m_price m_offer m_gets m_yes m_buys m_ends m_carried m_row rm m_keptRow m_likeGets m_likePrice m_ahead, cI aC m_offer 81 of] sz) [oX12 g0 m_refused m_kind m_figure m_weight m_got m_setting (nI n) msy mdn m_tape m_letter m_letterAt m_told tp mat stm m_kept him ki crs m_price m_offer m_gets m_yes m_buys m_ends m_carried m_row rm m_keptRow m_likeGets m_likePrice m_ahead, cI aC m_offer 81 of2]) (va_A [oX12 g0 m_refused m_kind m_figure m_weight m_got m_setting (nI n) msy mdn m_tape m_letter m_letterAt m_told tp mat stm m_kept him ki crs m_price m_offer m_gets m_yes m_buys m_ends m_carried m_row rm m_keptRow m_likeGets m_likePrice m_ahead, cI aC m_offer 81 of] sz)) 0 0 (va_A [oX12 g0 m_refused m_kind m_figure m_weight m_got m_setting (nI n) msy mdn m_tape m_letter m_letterAt m_told tp mat stm m_kept him ki crs m_price m_offer m_gets m_yes m_buys m_ends m_carried m_row rm m_keptRow m_likeGets m_likePrice m_ahead, cI aC m_offer 81 of] sz) := by
  refine Met.ofW (cc := cX12_offersEach) (maxL := 4) (ret := (none : Option FieldType)) (by decide) rfl ?_
  intro p e s m args below meth c s₁ B hml hv
  obtain ⟨rfl, hsz, hP, hK, hD0, hN⟩ := hv
  have hx := B.exec
  have hb := B.bytes
  have hr := B.returns
  have hts0 := atoms_spec (ws := (wW yX12_offersEach cX12_offersEach 4 (none : Option FieldType))) B.pre
  have hts : ∀ w9 ∈ lw_G, w9.before ([Value.ref g0, Value.int (nI i), Value.int (nI j), Value.int (nI v)] : List Value).toArray s = true := fun w9 h9 => hts0 w9 (List.mem_cons_of_mem _ h9)
  have hown : s.vm.findClass RX12 = some m.cls := findClass_of_methodNamed (x := yX12_offersEach) B.named
  have hlocks := B.notSynchronized
  subst hsz
  have hD := hD0.self (sz := s.heap.size)
  generalize hAe : va_A [oX12 g0 m_refused m_kind m_figure m_weight m_got m_setting (nI n) msy mdn m_tape m_letter m_letterAt m_told tp mat stm m_kept him ki crs m_price m_offer m_gets m_yes m_buys m_ends m_carried m_row rm m_keptRow m_likeGets m_likePrice m_ahead, cI aC m_offer 81 of] s.heap.size = A at hD ⊢
  have hA : ∀ q : Nat, s.heap.size ≤ q → A q := fun q h => by rw [← hAe]; exact Or.inr h
  obtain ⟨H, hHe⟩ : ∃ H : Heap, H = s.heap := ⟨_, rfl⟩
  have hS : va_S A s.heap H [] := by rw [hHe]; exact va_S.rf
  have hP : va_P (dC, dI) classes [oX12 g0 m_refused m_kind m_figure m_weight m_got m_setting (nI n) msy mdn m_tape m_letter m_letterAt m_told tp mat stm m_kept him ki crs m_price m_offer m_gets m_yes m_buys m_ends m_carried m_row rm m_keptRow m_likeGets m_likePrice m_ahead, cI aC m_offer 81 of] H := by rw [hHe]; exact hP
  have hl := lv_entry ([Value.ref g0, Value.int (nI i), Value.int (nI j), Value.int (nI v)]) (n := 4) (Nat.le_of_ble_eq_true rfl)
  rw [lg_entry_eq]
  generalize (lg_sl ([Value.ref g0, Value.int (nI i), Value.int (nI j), Value.int (nI v)]) ++ List.replicate (4 - (lg_sl ([Value.ref g0, Value.int (nI i), Value.int (nI j), Value.int (nI v)])).length) Slot.unset).toArray = ls at hl ⊢
  have hl : lv_has ls 4 [(0, Value.ref g0), (1, Value.int (nI i)), (2, Value.int (nI j)), (3, Value.int (nI v))] := hl
  rw [← hHe]
  refine lv_aload_n hx hb dX12_offersEach_0 rfl (lv_at hl 0 rfl) ?_
  refine va_get (D := (dC, dI)) (ci := 12) (v := Value.ref m_offer) (C := RX12) (T := TX12) (N := 33) hx hb hts inX12 hown hK hP 0 rfl rfl 21 (by decide) (hts _ (gw kw_738 rfl)) (fun _ h9 => h9) rfl dX12_offersEach_1 ?_
  refine lv_bipush (v := 9) hx hb dX12_offersEach_4 (by decide) ?_
  refine lv_iload_n hx hb dX12_offersEach_6 rfl (lv_at hl 1 rfl) ?_
  refine lv_imul hx hb dX12_offersEach_7 ?_
  refine lv_topi (fun x_1 e_1 => ?_)
  have h9 : x_1 = nI (9 * i) := by rw [e_1]; exact pk_mul 9 i
  subst h9
  refine lv_iload_n hx hb dX12_offersEach_8 rfl (lv_at hl 2 rfl) ?_
  refine lv_iadd hx hb dX12_offersEach_9 ?_
  refine lv_topi (fun x_2 e_2 => ?_)
  have h9 : x_2 = nI (9 * i + j) := by rw [e_2, nI_add]
  subst h9
  refine lv_iload_n hx hb dX12_offersEach_10 rfl (lv_at hl 3 rfl) ?_
  have h_3 : vp_in (nI (9 * i + j)) 81 := by first | exact vp_in_nI (by omega) (by omega) | (unfold vp_in; decide) | (subst_vars; first | (unfold vp_in; decide) | exact vp_in_nI (by omega) (by omega))
  refine va_iast hx hb hK hP hD hS 1 0 rfl rfl h_3 dX12_offersEach_11 (fun H locs hP hD hS => ?_)
  obtain ⟨f_4, e_f_4⟩ : ∃ y : Nat → Int32, y = upd of (nI (9 * i + j) : Int32).toNatClampNeg (nI v) := ⟨_, rfl⟩
  have hpd9 : PDx (dC, dI) classes A H [oX12 g0 m_refused m_kind m_figure m_weight m_got m_setting (nI n) msy mdn m_tape m_letter m_letterAt m_told tp mat stm m_kept him ki crs m_price m_offer m_gets m_yes m_buys m_ends m_carried m_row rm m_keptRow m_likeGets m_likePrice m_ahead, cI aC m_offer 81 f_4] := by rw [e_f_4]; exact ⟨hP, hD⟩
  have hP := hpd9.1
  have hD := hpd9.2
  clear hpd9
  refine lv_aload_n hx hb dX12_offersEach_12 rfl (lv_at hl 0 rfl) ?_
  refine va_get (D := (dC, dI)) (ci := 12) (v := Value.ref m_offer) (C := RX12) (T := TX12) (N := 33) hx hb hts inX12 hown hK hP 0 rfl rfl 21 (by decide) (hts _ (gw kw_738 rfl)) (fun _ h9 => h9) rfl dX12_offersEach_13 ?_
  refine lv_bipush (v := 9) hx hb dX12_offersEach_16 (by decide) ?_
  refine lv_iload_n hx hb dX12_offersEach_18 rfl (lv_at hl 1 rfl) ?_
  refine lv_imul hx hb dX12_offersEach_19 ?_
  refine lv_topi (fun x_5 e_5 => ?_)
  have h9 : x_5 = nI (9 * i) := by rw [e_5]; exact pk_mul 9 i
  subst h9
  refine lv_iload_n hx hb dX12_offersEach_20 rfl (lv_at hl 1 rfl) ?_
  refine lv_iadd hx hb dX12_offersEach_21 ?_
  refine lv_topi (fun x_6 e_6 => ?_)
  have h9 : x_6 = nI (9 * i + i) := by rw [e_6, nI_add]
  subst h9
  refine lv_dup2_11 hx hb dX12_offersEach_22 rfl rfl ?_
  have h_7 : vp_in (nI (9 * i + i)) 81 := by first | exact vp_in_nI (by omega) (by omega) | (unfold vp_in; decide) | (subst_vars; first | (unfold vp_in; decide) | exact vp_in_nI (by omega) (by omega))
  refine va_iald hx hb hK hP 1 0 rfl rfl h_7 dX12_offersEach_23 ?_
  refine lv_topi (fun x_8 e_8 => ?_)
  have h9 : x_8 = nI a0 := by rw [e_8, e_f_4, nI_clamp (by omega), nI_clamp (by omega), pk_un (by omega)]; exact ha
  subst h9
  refine lv_iload_n hx hb dX12_offersEach_24 rfl (lv_at hl 3 rfl) ?_
  refine lv_isub hx hb dX12_offersEach_25 ?_
  refine lv_topi (fun x_9 e_9 => ?_)
  have h9 : x_9 = nI (a0 - v) := by rw [e_9]; exact pk_sub hv.1
  subst h9
  have h_10 : vp_in (nI (9 * i + i)) 81 := by first | exact vp_in_nI (by omega) (by omega) | (unfold vp_in; decide) | (subst_vars; first | (unfold vp_in; decide) | exact vp_in_nI (by omega) (by omega))
  refine va_iast hx hb hK hP hD hS 1 0 rfl rfl h_10 dX12_offersEach_26 (fun H locs hP hD hS => ?_)
  obtain ⟨f_11, e_f_11⟩ : ∃ y : Nat → Int32, y = upd f_4 (nI (9 * i + i) : Int32).toNatClampNeg (nI (a0 - v)) := ⟨_, rfl⟩
  have hpd9 : PDx (dC, dI) classes A H [oX12 g0 m_refused m_kind m_figure m_weight m_got m_setting (nI n) msy mdn m_tape m_letter m_letterAt m_told tp mat stm m_kept him ki crs m_price m_offer m_gets m_yes m_buys m_ends m_carried m_row rm m_keptRow m_likeGets m_likePrice m_ahead, cI aC m_offer 81 f_11] := by rw [e_f_11]; exact ⟨hP, hD⟩
  have hP := hpd9.1
  have hD := hpd9.2
  clear hpd9
  have hpd9 := pd_N (cx := [oX12 g0 m_refused m_kind m_figure m_weight m_got m_setting (nI n) msy mdn m_tape m_letter m_letterAt m_told tp mat stm m_kept him ki crs m_price m_offer m_gets m_yes m_buys m_ends m_carried m_row rm m_keptRow m_likeGets m_likePrice m_ahead, cI aC m_offer 81 f_11]) hP hD [0, 1] (by decide) rfl
  have hP9 := hpd9.1
  have hD9 := hpd9.2
  refine W.widen (k := 0) (n := 0) (by omega) (by omega) ?_
  exact W.vret hx hb hr (fun t ht hW => ⟨⟨(f_11), rfl, by rw [e_f_11, e_f_4, nI_clamp (by omega), nI_clamp (by omega)], by rw [ht]; exact hP9, va_K.moved hW.alike hK, hD9⟩, hS.F ht⟩) hS.2.2 dX12_offersEach_27

set_option maxHeartbeats 1000000 in
set_option maxRecDepth 100000 in
/-- X12_offersFools_0 -/
theorem c_X12_offersFools_0 (l : Launch) (dC : Nat → ClassId) (dI : Nat → Nat → Nat) (aC : Nat → ClassId) (sz : Nat) (g0 : Nat) (m_refused : Nat) (m_kind : Nat) (m_figure : Nat) (m_weight : Nat) (m_got : Nat) (m_setting : Nat) (m_tape : Nat) (m_letter : Nat) (m_letterAt : Nat) (m_told : Nat) (m_kept : Nat) (m_price : Nat) (m_offer : Nat) (m_gets : Nat) (m_yes : Nat) (m_buys : Nat) (m_ends : Nat) (m_carried : Nat) (m_row : Nat) (m_keptRow : Nat) (m_likeGets : Nat) (m_likePrice : Nat) (m_ahead : Nat) (msy : Int32) (mdn : Int32) (tp : Int32) (mat : Int32) (stm : Int32) (him : Int32) (ki : Int32) (crs : Int32) (rm : Int32) (n : Nat) (ff : Nat → Int32) (of : Nat → Int32) (i : Nat) (cf : Nat) (O : Nat → Nat) (hi : i < n ∧ n ≤ 8) (hf : ff i = nI cf) (hc : cf ≤ 99) (hO : ∀ q, q < n → of (9 * i + q) = nI (O q)) (hO9 : ∀ q, O q ≤ 99) : Met l yX12_offersFools (wW yX12_offersFools cX12_offersFools 4 (none : Option FieldType)) ({ frames := 1, cells := 0, slots := 0, locals := 23 } : Room) (va_Pc [Value.ref g0, Value.int (nI i), Value.int 0] (fun U => U.heap.size = sz ∧ va_P (dC, dI) classes [oX12 g0 m_refused m_kind m_figure m_weight m_got m_setting (nI n) msy mdn m_tape m_letter m_letterAt m_told tp mat stm m_kept him ki crs m_price m_offer m_gets m_yes m_buys m_ends m_carried m_row rm m_keptRow m_likeGets m_likePrice m_ahead, cI aC m_figure 9 ff, cI aC m_offer 81 of] U.heap ∧ va_K (dC, dI) classes (TY aC) U ∧ va_D (fun _ => True) [oX12 g0 m_refused m_kind m_figure m_weight m_got m_setting (nI n) msy mdn m_tape m_letter m_letterAt m_told tp mat stm m_kept him ki crs m_price m_offer m_gets m_yes m_buys m_ends m_carried m_row rm m_keptRow m_likeGets m_likePrice m_ahead, cI aC m_figure 9 ff, cI aC m_offer 81 of] ∧ NX U)) (va_Qv (fun (of2 : Nat → Int32) => (∀ q, q < n → of2 (9 * i + q) = nI ((sE O i cf (n - 1 - i)) q)) ∧ ∀ k, k < 9 * i ∨ 9 * i + 9 ≤ k → of2 k = of k) (fun (of2 : Nat → Int32) (t : State) => va_P (dC, dI) classes [oX12 g0 m_refused m_kind m_figure m_weight m_got m_setting (nI n) msy mdn m_tape m_letter m_letterAt m_told tp mat stm m_kept him ki crs m_price m_offer m_gets m_yes m_buys m_ends m_carried m_row rm m_keptRow m_likeGets m_likePrice m_ahead, cI aC m_figure 9 ff, cI aC m_offer 81 of2] t.heap ∧ va_K (dC, dI) classes (TY aC) t ∧ va_D (va_A [oX12 g0 m_refused m_kind m_figure m_weight m_got m_setting (nI n) msy mdn m_tape m_letter m_letterAt m_told tp mat stm m_kept him ki crs m_price m_offer m_gets m_yes m_buys m_ends m_carried m_row rm m_keptRow m_likeGets m_likePrice m_ahead, cI aC m_figure 9 ff, cI aC m_offer 81 of] sz) [oX12 g0 m_refused m_kind m_figure m_weight m_got m_setting (nI n) msy mdn m_tape m_letter m_letterAt m_told tp mat stm m_kept him ki crs m_price m_offer m_gets m_yes m_buys m_ends m_carried m_row rm m_keptRow m_likeGets m_likePrice m_ahead, cI aC m_figure 9 ff, cI aC m_offer 81 of2]) (va_A [oX12 g0 m_refused m_kind m_figure m_weight m_got m_setting (nI n) msy mdn m_tape m_letter m_letterAt m_told tp mat stm m_kept him ki crs m_price m_offer m_gets m_yes m_buys m_ends m_carried m_row rm m_keptRow m_likeGets m_likePrice m_ahead, cI aC m_figure 9 ff, cI aC m_offer 81 of] sz)) 0 0 (va_A [oX12 g0 m_refused m_kind m_figure m_weight m_got m_setting (nI n) msy mdn m_tape m_letter m_letterAt m_told tp mat stm m_kept him ki crs m_price m_offer m_gets m_yes m_buys m_ends m_carried m_row rm m_keptRow m_likeGets m_likePrice m_ahead, cI aC m_figure 9 ff, cI aC m_offer 81 of] sz) := by
  refine Met.ofW (cc := cX12_offersFools) (maxL := 4) (ret := (none : Option FieldType)) (by decide) rfl ?_
  intro p e s m args below meth c s₁ B hml hv
  obtain ⟨rfl, hsz, hP, hK, hD0, hN⟩ := hv
  have hx := B.exec
  have hb := B.bytes
  have hr := B.returns
  have hts0 := atoms_spec (ws := (wW yX12_offersFools cX12_offersFools 4 (none : Option FieldType))) B.pre
  have hts : ∀ w9 ∈ lw_G, w9.before ([Value.ref g0, Value.int (nI i), Value.int 0] : List Value).toArray s = true := fun w9 h9 => hts0 w9 (List.mem_cons_of_mem _ h9)
  have hown : s.vm.findClass RX12 = some m.cls := findClass_of_methodNamed (x := yX12_offersFools) B.named
  have hlocks := B.notSynchronized
  subst hsz
  have hD := hD0.self (sz := s.heap.size)
  generalize hAe : va_A [oX12 g0 m_refused m_kind m_figure m_weight m_got m_setting (nI n) msy mdn m_tape m_letter m_letterAt m_told tp mat stm m_kept him ki crs m_price m_offer m_gets m_yes m_buys m_ends m_carried m_row rm m_keptRow m_likeGets m_likePrice m_ahead, cI aC m_figure 9 ff, cI aC m_offer 81 of] s.heap.size = A at hD ⊢
  have hA : ∀ q : Nat, s.heap.size ≤ q → A q := fun q h => by rw [← hAe]; exact Or.inr h
  obtain ⟨H, hHe⟩ : ∃ H : Heap, H = s.heap := ⟨_, rfl⟩
  have hS : va_S A s.heap H [] := by rw [hHe]; exact va_S.rf
  have hP : va_P (dC, dI) classes [oX12 g0 m_refused m_kind m_figure m_weight m_got m_setting (nI n) msy mdn m_tape m_letter m_letterAt m_told tp mat stm m_kept him ki crs m_price m_offer m_gets m_yes m_buys m_ends m_carried m_row rm m_keptRow m_likeGets m_likePrice m_ahead, cI aC m_figure 9 ff, cI aC m_offer 81 of] H := by rw [hHe]; exact hP
  have hl := lv_entry ([Value.ref g0, Value.int (nI i), Value.int 0]) (n := 4) (Nat.le_of_ble_eq_true rfl)
  rw [lg_entry_eq]
  generalize (lg_sl ([Value.ref g0, Value.int (nI i), Value.int 0]) ++ List.replicate (4 - (lg_sl ([Value.ref g0, Value.int (nI i), Value.int 0])).length) Slot.unset).toArray = ls at hl ⊢
  have hl : lv_has ls 4 [(0, Value.ref g0), (1, Value.int (nI i)), (2, Value.int 0)] := hl
  rw [← hHe]
  refine lv_iload_n hx hb dX12_offersFools_0 rfl (lv_at hl 1 rfl) ?_
  refine lv_iconst (v := 1) hx hb dX12_offersFools_1 (by decide) ?_
  refine lv_iadd hx hb dX12_offersFools_2 ?_
  refine lv_topi (fun x_1 e_1 => ?_)
  refine lv_istore_n (lv' := [(3, Value.int x_1), (0, Value.ref g0), (1, Value.int (nI i)), (2, Value.int 0)]) hx hb dX12_offersFools_3 rfl hl (by decide) rfl (fun ls hl => ?_)
  have h9 : x_1 = nI (i + 1) := by rw [e_1, nI_1]
  subst h9
  have lp_4 : ∀ (fu : Nat) (k : Nat) (oc : Nat → Int32) (hfu : n - k < fu) (hk : i < k ∧ k ≤ n) (hrow : ∀ q, q < n → oc (9 * i + q) = nI ((sE O i cf (k - (i + 1))) q)) (hfr : ∀ k, k < 9 * i ∨ 9 * i + 9 ≤ k → oc k = of k) (H : Heap) (locs : List Loc) (ls : Array Slot), va_P (dC, dI) classes [oX12 g0 m_refused m_kind m_figure m_weight m_got m_setting (nI n) msy mdn m_tape m_letter m_letterAt m_told tp mat stm m_kept him ki crs m_price m_offer m_gets m_yes m_buys m_ends m_carried m_row rm m_keptRow m_likeGets m_likePrice m_ahead, cI aC m_figure 9 ff, cI aC m_offer 81 oc] H → va_D A [oX12 g0 m_refused m_kind m_figure m_weight m_got m_setting (nI n) msy mdn m_tape m_letter m_letterAt m_told tp mat stm m_kept him ki crs m_price m_offer m_gets m_yes m_buys m_ends m_carried m_row rm m_keptRow m_likeGets m_likePrice m_ahead, cI aC m_figure 9 ff, cI aC m_offer 81 oc] → va_S A s.heap H locs → lv_has ls 4 [(0, Value.ref g0), (1, Value.int (nI i)), (2, Value.int 0), (3, Value.int (nI k))] → W p l e (headSpec (wW yX12_offersFools cX12_offersFools 4 (none : Option FieldType)) ({ frames := 1, cells := 0, slots := 0, locals := 23 } : Room)).room s m ([Value.ref g0, Value.int (nI i), Value.int 0] : List Value).toArray below meth c H locs 0 0 (MQ below (va_Qv (fun (of2 : Nat → Int32) => (∀ q, q < n → of2 (9 * i + q) = nI ((sE O i cf (n - 1 - i)) q)) ∧ ∀ k, k < 9 * i ∨ 9 * i + 9 ≤ k → of2 k = of k) (fun (of2 : Nat → Int32) (t : State) => va_P (dC, dI) classes [oX12 g0 m_refused m_kind m_figure m_weight m_got m_setting (nI n) msy mdn m_tape m_letter m_letterAt m_told tp mat stm m_kept him ki crs m_price m_offer m_gets m_yes m_buys m_ends m_carried m_row rm m_keptRow m_likeGets m_likePrice m_ahead, cI aC m_figure 9 ff, cI aC m_offer 81 of2] t.heap ∧ va_K (dC, dI) classes (TY aC) t ∧ va_D A [oX12 g0 m_refused m_kind m_figure m_weight m_got m_setting (nI n) msy mdn m_tape m_letter m_letterAt m_told tp mat stm m_kept him ki crs m_price m_offer m_gets m_yes m_buys m_ends m_carried m_row rm m_keptRow m_likeGets m_likePrice m_ahead, cI aC m_figure 9 ff, cI aC m_offer 81 of2]) A) ([Value.ref g0, Value.int (nI i), Value.int 0] : List Value).toArray s 0 0 A) (F0 m 4 ls []) := by
    intro fu
    induction fu with
    | zero => intro k oc hfu; exact absurd hfu (Nat.not_lt_zero _)
    | succ fu ih_4 =>
      intro k oc hfu hk hrow hfr H locs ls hP hD hS hl
      refine lv_iload_n hx hb dX12_offersFools_4 rfl (lv_at hl 3 rfl) ?_
      refine lv_aload_n hx hb dX12_offersFools_5 rfl (lv_at hl 0 rfl) ?_
      refine va_get (D := (dC, dI)) (ci := 12) (v := Value.int (nI n)) (C := RX12) (T := TX12) (N := 33) hx hb hts inX12 hown hK hP 0 rfl rfl 6 (by decide) (hts _ (gw kw_723 rfl)) (fun _ h9 => h9) rfl dX12_offersFools_6 ?_
      refine lv_icmp_ge (tgt := 66) hx hb dX12_offersFools_9 (by decide) (fun c_2 => ?_) (fun c_2 => ?_)
      · have hkn : k = n := by
          rcases Nat.lt_or_ge k n with q | q
          · exact absurd c_2 (nI_ge q (by omega))
          · omega
        have hpd9 := pd_N (cx := [oX12 g0 m_refused m_kind m_figure m_weight m_got m_setting (nI n) msy mdn m_tape m_letter m_letterAt m_told tp mat stm m_kept him ki crs m_price m_offer m_gets m_yes m_buys m_ends m_carried m_row rm m_keptRow m_likeGets m_likePrice m_ahead, cI aC m_figure 9 ff, cI aC m_offer 81 oc]) hP hD [0, 1, 2] (by decide) rfl
        have hP9 := hpd9.1
        have hD9 := hpd9.2
        refine W.widen (k := 0) (n := 0) (by omega) (by omega) ?_
        exact W.vret hx hb hr (fun t ht hW => ⟨⟨(oc), rfl, ⟨fun q hq => by rw [hrow q hq, hkn, show n - (i + 1) = n - 1 - i by omega], hfr⟩, by rw [ht]; exact hP9, va_K.moved hW.alike hK, hD9⟩, hS.F ht⟩) hS.2.2 dX12_offersFools_66
      · have hlt : k < n := by
          rcases Nat.lt_or_ge k n with q | q
          · exact q
          · exact absurd (nI_le q (by omega)) c_2
        have hsl := sE_le (i := i) hc hO9 (k - (i + 1)) i
        refine lv_aload_n hx hb dX12_offersFools_12 rfl (lv_at hl 0 rfl) ?_
        refine va_get (D := (dC, dI)) (ci := 12) (v := Value.ref m_offer) (C := RX12) (T := TX12) (N := 33) hx hb hts inX12 hown hK hP 0 rfl rfl 21 (by decide) (hts _ (gw kw_738 rfl)) (fun _ h9 => h9) rfl dX12_offersFools_13 ?_
        refine lv_bipush (v := 9) hx hb dX12_offersFools_16 (by decide) ?_
        refine lv_iload_n hx hb dX12_offersFools_18 rfl (lv_at hl 1 rfl) ?_
        refine lv_imul hx hb dX12_offersFools_19 ?_
        refine lv_topi (fun x_3 e_3 => ?_)
        have h9 : x_3 = nI (9 * i) := by rw [e_3]; exact pk_mul 9 i
        subst h9
        refine lv_iload_n hx hb dX12_offersFools_20 rfl (lv_at hl 1 rfl) ?_
        refine lv_iadd hx hb dX12_offersFools_21 ?_
        refine lv_topi (fun x_4 e_4 => ?_)
        have h9 : x_4 = nI (9 * i + i) := by rw [e_4, nI_add]
        subst h9
        have h_5 : vp_in (nI (9 * i + i)) 81 := by first | exact vp_in_nI (by omega) (by omega) | (unfold vp_in; decide) | (subst_vars; first | (unfold vp_in; decide) | exact vp_in_nI (by omega) (by omega))
        refine va_iald hx hb hK hP 2 0 rfl rfl h_5 dX12_offersFools_22 ?_
        refine lv_topi (fun x_6 e_6 => ?_)
        have h9 : x_6 = nI (sE O i cf (k - (i + 1)) i) := by rw [e_6, nI_clamp (by omega)]; exact hrow i (by omega)
        subst h9
        refine lv_aload_n hx hb dX12_offersFools_23 rfl (lv_at hl 0 rfl) ?_
        refine va_get (D := (dC, dI)) (ci := 12) (v := Value.ref m_figure) (C := RX12) (T := TX12) (N := 33) hx hb hts inX12 hown hK hP 0 rfl rfl 2 (by decide) (hts _ (gw kw_719 rfl)) (fun _ h9 => h9) rfl dX12_offersFools_24 ?_
        refine lv_iload_n hx hb dX12_offersFools_27 rfl (lv_at hl 1 rfl) ?_
        have h_7 : vp_in (nI i) 9 := by first | exact vp_in_nI (by omega) (by omega) | (unfold vp_in; decide) | (subst_vars; first | (unfold vp_in; decide) | exact vp_in_nI (by omega) (by omega))
        refine va_iald hx hb hK hP 1 0 rfl rfl h_7 dX12_offersFools_28 ?_
        refine lv_topi (fun x_8 e_8 => ?_)
        have h9 : x_8 = nI cf := by rw [e_8, nI_clamp (by omega)]; exact hf
        subst h9
        refine lv_icmp_ge (tgt := 33) hx hb dX12_offersFools_29 (by decide) (fun c_9 => ?_) (fun c_9 => ?_)
        · have hce : cf ≤ sE O i cf (k - (i + 1)) i := by
            rcases Nat.lt_or_ge (sE O i cf (k - (i + 1)) i) cf with q | q
            · exact absurd c_9 (nI_ge q (by omega))
            · exact q
          refine lv_aload_n hx hb dX12_offersFools_33 rfl (lv_at hl 0 rfl) ?_
          refine lv_iload_n hx hb dX12_offersFools_34 rfl (lv_at hl 1 rfl) ?_
          refine lv_iload_n hx hb dX12_offersFools_35 rfl (lv_at hl 2 rfl) ?_
          refine lv_if_eq (tgt := 50) hx hb dX12_offersFools_36 (by decide) (fun c_10 => ?_) (fun c_10 => ?_)
          · refine lv_iload_n hx hb dX12_offersFools_50 rfl (lv_at hl 3 rfl) ?_
            refine lv_aload_n hx hb dX12_offersFools_51 rfl (lv_at hl 0 rfl) ?_
            refine va_get (D := (dC, dI)) (ci := 12) (v := Value.ref m_figure) (C := RX12) (T := TX12) (N := 33) hx hb hts inX12 hown hK hP 0 rfl rfl 2 (by decide) (hts _ (gw kw_719 rfl)) (fun _ h9 => h9) rfl dX12_offersFools_52 ?_
            refine lv_iload_n hx hb dX12_offersFools_55 rfl (lv_at hl 1 rfl) ?_
            have h_11 : vp_in (nI i) 9 := by first | exact vp_in_nI (by omega) (by omega) | (unfold vp_in; decide) | (subst_vars; first | (unfold vp_in; decide) | exact vp_in_nI (by omega) (by omega))
            refine va_iald hx hb hK hP 1 0 rfl rfl h_11 dX12_offersFools_56 ?_
            refine lv_topi (fun x_12 e_12 => ?_)
            have h9 : x_12 = nI cf := by rw [e_12, nI_clamp (by omega)]; exact hf
            subst h9
            have hpd9 := pdf_N (cx := [oX12 g0 m_refused m_kind m_figure m_weight m_got m_setting (nI n) msy mdn m_tape m_letter m_letterAt m_told tp mat stm m_kept him ki crs m_price m_offer m_gets m_yes m_buys m_ends m_carried m_row rm m_keptRow m_likeGets m_likePrice m_ahead, cI aC m_offer 81 oc]) hP hD hS hA [0, 2] (by decide) rfl
            have hPc := hpd9.1
            have hDc := hpd9.2.1
            have hFc := hpd9.2.2
            clear hpd9
            refine va_callv (va_runV (As := [Value.int (nI i), Value.int (nI k), Value.int (nI cf)]) (rest := []) ⟨hx, hb, hml, hown, hts⟩ (c_X12_offersEach l dC dI aC H.size g0 m_refused m_kind m_figure m_weight m_got m_setting m_tape m_letter m_letterAt m_told m_kept m_price m_offer m_gets m_yes m_buys m_ends m_carried m_row m_keptRow m_likeGets m_likePrice m_ahead msy mdn tp mat stm him ki crs rm n oc i k cf (sE O i cf (k - (i + 1)) i) (by omega) (hrow i (by omega)) (⟨hce, hsl⟩)) ⟨(callB_of 3 hts (gG kw_945) rfl rfl rfl (hts _ (gw kw_13 rfl)) (hts _ (gw kw_942 rfl)) hd_X12_offersEach ⟨Nat.le_of_ble_eq_true rfl, Nat.le_of_ble_eq_true rfl⟩), (hts _ (gw kw_944 rfl)), (hts _ (gw ks_55 rfl))⟩ ⟨fb_std, va_recv (q := (RX12, TX12, 33)) hK hPc (ci := 12) (q0 := 0) rfl rfl, pre_std hPc hK hDc hN⟩ rfl rfl hl.1 rfl (lv_room (Nat.le_of_ble_eq_true rfl)) dX12_offersFools_57 ⟨Nat.le_of_ble_eq_true rfl, Nat.le_of_ble_eq_true rfl⟩) hS (fun q _ h => hFc q h) hFc (fun u9 t9 H1 locs ht hvm hw_13 hB hz1 hk1 hS => ?_)
            obtain ⟨u_14, rfl⟩ : ∃ z, z = u9 := ⟨_, rfl⟩
            obtain ⟨hP1, hK1, hD1⟩ := hB
            rw [ht] at hP1
            clear hK1
            try dsimp only at hw_13
            have hpd9 : PDx (dC, dI) classes A H1 [cI aC m_figure 9 ff, oX12 g0 m_refused m_kind m_figure m_weight m_got m_setting (nI n) msy mdn m_tape m_letter m_letterAt m_told tp mat stm m_kept him ki crs m_price m_offer m_gets m_yes m_buys m_ends m_carried m_row rm m_keptRow m_likeGets m_likePrice m_ahead, cI aC m_offer 81 u_14] := jn_N (wr := [cI aC m_figure 9 ff]) hFc hk1 hP1 hD1 hP hD [0, 2] [1] rfl rfl (by decide) (by decide)
            have hP := hpd9.1
            have hD := hpd9.2
            clear hpd9
            generalize H1 = H at hP hS ⊢
            clear hPc hDc hFc hz1 hk1 hP1 hD1 ht hvm
            have hb1 : ∀ q, q < n → u_14 (9 * i + q) = nI ((sE O i cf (k + 1 - (i + 1))) q) := oe_row (j := k) (by omega) hw_13 rfl hrow (fun q _ => by rw [show k + 1 - (i + 1) = (k - (i + 1)) + 1 by omega]; show gv (sE O i cf (k - (i + 1))) i (i + 1 + (k - (i + 1))) cf q = _; unfold gv; rw [if_pos hce, show i + 1 + (k - (i + 1)) = k by omega]; by_cases e : q = i <;> first | (rw [e, if_neg (by omega), if_pos rfl, if_pos rfl]; done) | (rw [if_neg e, if_neg e]))
            have hb2 := oe_fr (by omega) hw_13 hfr
            obtain ⟨x_15, e_15⟩ : ∃ y : Int32, y = (nI k) + 1 := ⟨_, rfl⟩
            refine lv_iinc (v := x_15) (lv' := [(3, Value.int x_15), (0, Value.ref g0), (1, Value.int (nI i)), (2, Value.int 0)]) hx hb dX12_offersFools_60 hl (k := 3) rfl (by rw [e_15]; rfl) (by decide) rfl (fun ls hl => ?_)
            have h9 : x_15 = nI (k + 1) := by rw [e_15, nI_1]
            subst h9
            refine lv_goto (tgt := 4) hx hb dX12_offersFools_63 (by decide) ?_
            exact ih_4 (k + 1) u_14 (ms_lt hlt hfu) (by omega) (hb1) (hb2) _ _ _ (hP.sub [1, 0, 2] rfl) (hD.sub [1, 0, 2] (by decide) rfl) hS (lv_sub hl [1, 2, 3, 0] rfl)
          · exact absurd rfl c_10
        · have hpd9 := pd_N (cx := [oX12 g0 m_refused m_kind m_figure m_weight m_got m_setting (nI n) msy mdn m_tape m_letter m_letterAt m_told tp mat stm m_kept him ki crs m_price m_offer m_gets m_yes m_buys m_ends m_carried m_row rm m_keptRow m_likeGets m_likePrice m_ahead, cI aC m_figure 9 ff, cI aC m_offer 81 oc]) hP hD [0, 1, 2] (by decide) rfl
          have hP9 := hpd9.1
          have hD9 := hpd9.2
          refine W.widen (k := 0) (n := 0) (by omega) (by omega) ?_
          exact W.vret hx hb hr (fun t ht hW => ⟨⟨(oc), rfl, ⟨fun q hq => by rw [hrow q hq, show n - 1 - i = (k - (i + 1)) + (n - k) by omega, sE_stay _ (by have h9 := c_9; rw [Int32.not_le, nI_ltI (by omega) (by omega)] at h9; omega)], hfr⟩, by rw [ht]; exact hP9, va_K.moved hW.alike hK, hD9⟩, hS.F ht⟩) hS.2.2 dX12_offersFools_32
  exact lp_4 ((n - (i + 1)) + 1) (i + 1) of (Nat.lt_succ_self _) (by omega) (fun q hq => by rw [Nat.sub_self]; exact hO q hq) (fun k _ => rfl) _ _ _ (hP.sub [0, 1, 2] rfl) (hD.sub [0, 1, 2] (by decide) rfl) hS (lv_sub hl [1, 2, 3, 0] rfl)

set_option maxHeartbeats 1000000 in
set_option maxRecDepth 100000 in
/-- X12_offersFools_1 -/
theorem c_X12_offersFools_1 (l : Launch) (dC : Nat → ClassId) (dI : Nat → Nat → Nat) (aC : Nat → ClassId) (sz : Nat) (g0 : Nat) (m_refused : Nat) (m_kind : Nat) (m_figure : Nat) (m_weight : Nat) (m_got : Nat) (m_setting : Nat) (m_tape : Nat) (m_letter : Nat) (m_letterAt : Nat) (m_told : Nat) (m_kept : Nat) (m_price : Nat) (m_offer : Nat) (m_gets : Nat) (m_yes : Nat) (m_buys : Nat) (m_ends : Nat) (m_carried : Nat) (m_row : Nat) (m_keptRow : Nat) (m_likeGets : Nat) (m_likePrice : Nat) (m_ahead : Nat) (msy : Int32) (mdn : Int32) (tp : Int32) (mat : Int32) (stm : Int32) (him : Int32) (ki : Int32) (crs : Int32) (rm : Int32) (n : Nat) (ff : Nat → Int32) (of : Nat → Int32) (i : Nat) (cf : Nat) (O : Nat → Nat) (hi : i < n ∧ n ≤ 8) (hf : ff i = nI cf) (hc : cf ≤ 99) (hO : ∀ q, q < n → of (9 * i + q) = nI (O q)) (hO9 : ∀ q, O q ≤ 99) : Met l yX12_offersFools (wW yX12_offersFools cX12_offersFools 4 (none : Option FieldType)) ({ frames := 1, cells := 0, slots := 0, locals := 23 } : Room) (va_Pc [Value.ref g0, Value.int (nI i), Value.int 1] (fun U => U.heap.size = sz ∧ va_P (dC, dI) classes [oX12 g0 m_refused m_kind m_figure m_weight m_got m_setting (nI n) msy mdn m_tape m_letter m_letterAt m_told tp mat stm m_kept him ki crs m_price m_offer m_gets m_yes m_buys m_ends m_carried m_row rm m_keptRow m_likeGets m_likePrice m_ahead, cI aC m_figure 9 ff, cI aC m_offer 81 of] U.heap ∧ va_K (dC, dI) classes (TY aC) U ∧ va_D (fun _ => True) [oX12 g0 m_refused m_kind m_figure m_weight m_got m_setting (nI n) msy mdn m_tape m_letter m_letterAt m_told tp mat stm m_kept him ki crs m_price m_offer m_gets m_yes m_buys m_ends m_carried m_row rm m_keptRow m_likeGets m_likePrice m_ahead, cI aC m_figure 9 ff, cI aC m_offer 81 of] ∧ NX U)) (va_Qv (fun (of2 : Nat → Int32) => (∀ q, q < n → of2 (9 * i + q) = nI ((sY O n i cf (n - 1 - i)) q)) ∧ ∀ k, k < 9 * i ∨ 9 * i + 9 ≤ k → of2 k = of k) (fun (of2 : Nat → Int32) (t : State) => va_P (dC, dI) classes [oX12 g0 m_refused m_kind m_figure m_weight m_got m_setting (nI n) msy mdn m_tape m_letter m_letterAt m_told tp mat stm m_kept him ki crs m_price m_offer m_gets m_yes m_buys m_ends m_carried m_row rm m_keptRow m_likeGets m_likePrice m_ahead, cI aC m_figure 9 ff, cI aC m_offer 81 of2] t.heap ∧ va_K (dC, dI) classes (TY aC) t ∧ va_D (va_A [oX12 g0 m_refused m_kind m_figure m_weight m_got m_setting (nI n) msy mdn m_tape m_letter m_letterAt m_told tp mat stm m_kept him ki crs m_price m_offer m_gets m_yes m_buys m_ends m_carried m_row rm m_keptRow m_likeGets m_likePrice m_ahead, cI aC m_figure 9 ff, cI aC m_offer 81 of] sz) [oX12 g0 m_refused m_kind m_figure m_weight m_got m_setting (nI n) msy mdn m_tape m_letter m_letterAt m_told tp mat stm m_kept him ki crs m_price m_offer m_gets m_yes m_buys m_ends m_carried m_row rm m_keptRow m_likeGets m_likePrice m_ahead, cI aC m_figure 9 ff, cI aC m_offer 81 of2]) (va_A [oX12 g0 m_refused m_kind m_figure m_weight m_got m_setting (nI n) msy mdn m_tape m_letter m_letterAt m_told tp mat stm m_kept him ki crs m_price m_offer m_gets m_yes m_buys m_ends m_carried m_row rm m_keptRow m_likeGets m_likePrice m_ahead, cI aC m_figure 9 ff, cI aC m_offer 81 of] sz)) 0 0 (va_A [oX12 g0 m_refused m_kind m_figure m_weight m_got m_setting (nI n) msy mdn m_tape m_letter m_letterAt m_told tp mat stm m_kept him ki crs m_price m_offer m_gets m_yes m_buys m_ends m_carried m_row rm m_keptRow m_likeGets m_likePrice m_ahead, cI aC m_figure 9 ff, cI aC m_offer 81 of] sz) := by
  refine Met.ofW (cc := cX12_offersFools) (maxL := 4) (ret := (none : Option FieldType)) (by decide) rfl ?_
  intro p e s m args below meth c s₁ B hml hv
  obtain ⟨rfl, hsz, hP, hK, hD0, hN⟩ := hv
  have hx := B.exec
  have hb := B.bytes
  have hr := B.returns
  have hts0 := atoms_spec (ws := (wW yX12_offersFools cX12_offersFools 4 (none : Option FieldType))) B.pre
  have hts : ∀ w9 ∈ lw_G, w9.before ([Value.ref g0, Value.int (nI i), Value.int 1] : List Value).toArray s = true := fun w9 h9 => hts0 w9 (List.mem_cons_of_mem _ h9)
  have hown : s.vm.findClass RX12 = some m.cls := findClass_of_methodNamed (x := yX12_offersFools) B.named
  have hlocks := B.notSynchronized
  subst hsz
  have hD := hD0.self (sz := s.heap.size)
  generalize hAe : va_A [oX12 g0 m_refused m_kind m_figure m_weight m_got m_setting (nI n) msy mdn m_tape m_letter m_letterAt m_told tp mat stm m_kept him ki crs m_price m_offer m_gets m_yes m_buys m_ends m_carried m_row rm m_keptRow m_likeGets m_likePrice m_ahead, cI aC m_figure 9 ff, cI aC m_offer 81 of] s.heap.size = A at hD ⊢
  have hA : ∀ q : Nat, s.heap.size ≤ q → A q := fun q h => by rw [← hAe]; exact Or.inr h
  obtain ⟨H, hHe⟩ : ∃ H : Heap, H = s.heap := ⟨_, rfl⟩
  have hS : va_S A s.heap H [] := by rw [hHe]; exact va_S.rf
  have hP : va_P (dC, dI) classes [oX12 g0 m_refused m_kind m_figure m_weight m_got m_setting (nI n) msy mdn m_tape m_letter m_letterAt m_told tp mat stm m_kept him ki crs m_price m_offer m_gets m_yes m_buys m_ends m_carried m_row rm m_keptRow m_likeGets m_likePrice m_ahead, cI aC m_figure 9 ff, cI aC m_offer 81 of] H := by rw [hHe]; exact hP
  have hl := lv_entry ([Value.ref g0, Value.int (nI i), Value.int 1]) (n := 4) (Nat.le_of_ble_eq_true rfl)
  rw [lg_entry_eq]
  generalize (lg_sl ([Value.ref g0, Value.int (nI i), Value.int 1]) ++ List.replicate (4 - (lg_sl ([Value.ref g0, Value.int (nI i), Value.int 1])).length) Slot.unset).toArray = ls at hl ⊢
  have hl : lv_has ls 4 [(0, Value.ref g0), (1, Value.int (nI i)), (2, Value.int 1)] := hl
  rw [← hHe]
  refine lv_iload_n hx hb dX12_offersFools_0 rfl (lv_at hl 1 rfl) ?_
  refine lv_iconst (v := 1) hx hb dX12_offersFools_1 (by decide) ?_
  refine lv_iadd hx hb dX12_offersFools_2 ?_
  refine lv_topi (fun x_1 e_1 => ?_)
  refine lv_istore_n (lv' := [(3, Value.int x_1), (0, Value.ref g0), (1, Value.int (nI i)), (2, Value.int 1)]) hx hb dX12_offersFools_3 rfl hl (by decide) rfl (fun ls hl => ?_)
  have h9 : x_1 = nI (i + 1) := by rw [e_1, nI_1]
  subst h9
  have lp_4 : ∀ (fu : Nat) (k : Nat) (oc : Nat → Int32) (hfu : n - k < fu) (hk : i < k ∧ k ≤ n) (hrow : ∀ q, q < n → oc (9 * i + q) = nI ((sY O n i cf (k - (i + 1))) q)) (hfr : ∀ k, k < 9 * i ∨ 9 * i + 9 ≤ k → oc k = of k) (H : Heap) (locs : List Loc) (ls : Array Slot), va_P (dC, dI) classes [oX12 g0 m_refused m_kind m_figure m_weight m_got m_setting (nI n) msy mdn m_tape m_letter m_letterAt m_told tp mat stm m_kept him ki crs m_price m_offer m_gets m_yes m_buys m_ends m_carried m_row rm m_keptRow m_likeGets m_likePrice m_ahead, cI aC m_figure 9 ff, cI aC m_offer 81 oc] H → va_D A [oX12 g0 m_refused m_kind m_figure m_weight m_got m_setting (nI n) msy mdn m_tape m_letter m_letterAt m_told tp mat stm m_kept him ki crs m_price m_offer m_gets m_yes m_buys m_ends m_carried m_row rm m_keptRow m_likeGets m_likePrice m_ahead, cI aC m_figure 9 ff, cI aC m_offer 81 oc] → va_S A s.heap H locs → lv_has ls 4 [(0, Value.ref g0), (1, Value.int (nI i)), (2, Value.int 1), (3, Value.int (nI k))] → W p l e (headSpec (wW yX12_offersFools cX12_offersFools 4 (none : Option FieldType)) ({ frames := 1, cells := 0, slots := 0, locals := 23 } : Room)).room s m ([Value.ref g0, Value.int (nI i), Value.int 1] : List Value).toArray below meth c H locs 0 0 (MQ below (va_Qv (fun (of2 : Nat → Int32) => (∀ q, q < n → of2 (9 * i + q) = nI ((sY O n i cf (n - 1 - i)) q)) ∧ ∀ k, k < 9 * i ∨ 9 * i + 9 ≤ k → of2 k = of k) (fun (of2 : Nat → Int32) (t : State) => va_P (dC, dI) classes [oX12 g0 m_refused m_kind m_figure m_weight m_got m_setting (nI n) msy mdn m_tape m_letter m_letterAt m_told tp mat stm m_kept him ki crs m_price m_offer m_gets m_yes m_buys m_ends m_carried m_row rm m_keptRow m_likeGets m_likePrice m_ahead, cI aC m_figure 9 ff, cI aC m_offer 81 of2] t.heap ∧ va_K (dC, dI) classes (TY aC) t ∧ va_D A [oX12 g0 m_refused m_kind m_figure m_weight m_got m_setting (nI n) msy mdn m_tape m_letter m_letterAt m_told tp mat stm m_kept him ki crs m_price m_offer m_gets m_yes m_buys m_ends m_carried m_row rm m_keptRow m_likeGets m_likePrice m_ahead, cI aC m_figure 9 ff, cI aC m_offer 81 of2]) A) ([Value.ref g0, Value.int (nI i), Value.int 1] : List Value).toArray s 0 0 A) (F0 m 4 ls []) := by
    intro fu
    induction fu with
    | zero => intro k oc hfu; exact absurd hfu (Nat.not_lt_zero _)
    | succ fu ih_4 =>
      intro k oc hfu hk hrow hfr H locs ls hP hD hS hl
      refine lv_iload_n hx hb dX12_offersFools_4 rfl (lv_at hl 3 rfl) ?_
      refine lv_aload_n hx hb dX12_offersFools_5 rfl (lv_at hl 0 rfl) ?_
      refine va_get (D := (dC, dI)) (ci := 12) (v := Value.int (nI n)) (C := RX12) (T := TX12) (N := 33) hx hb hts inX12 hown hK hP 0 rfl rfl 6 (by decide) (hts _ (gw kw_723 rfl)) (fun _ h9 => h9) rfl dX12_offersFools_6 ?_
      refine lv_icmp_ge (tgt := 66) hx hb dX12_offersFools_9 (by decide) (fun c_2 => ?_) (fun c_2 => ?_)
      · have hkn : k = n := by
          rcases Nat.lt_or_ge k n with q | q
          · exact absurd c_2 (nI_ge q (by omega))
          · omega
        have hpd9 := pd_N (cx := [oX12 g0 m_refused m_kind m_figure m_weight m_got m_setting (nI n) msy mdn m_tape m_letter m_letterAt m_told tp mat stm m_kept him ki crs m_price m_offer m_gets m_yes m_buys m_ends m_carried m_row rm m_keptRow m_likeGets m_likePrice m_ahead, cI aC m_figure 9 ff, cI aC m_offer 81 oc]) hP hD [0, 1, 2] (by decide) rfl
        have hP9 := hpd9.1
        have hD9 := hpd9.2
        refine W.widen (k := 0) (n := 0) (by omega) (by omega) ?_
        exact W.vret hx hb hr (fun t ht hW => ⟨⟨(oc), rfl, ⟨fun q hq => by rw [hrow q hq, hkn, show n - (i + 1) = n - 1 - i by omega], hfr⟩, by rw [ht]; exact hP9, va_K.moved hW.alike hK, hD9⟩, hS.F ht⟩) hS.2.2 dX12_offersFools_66
      · have hlt : k < n := by
          rcases Nat.lt_or_ge k n with q | q
          · exact q
          · exact absurd (nI_le q (by omega)) c_2
        have hsl := sY_le (n := n) (i := i) hc hO9 (k - (i + 1)) i
        refine lv_aload_n hx hb dX12_offersFools_12 rfl (lv_at hl 0 rfl) ?_
        refine va_get (D := (dC, dI)) (ci := 12) (v := Value.ref m_offer) (C := RX12) (T := TX12) (N := 33) hx hb hts inX12 hown hK hP 0 rfl rfl 21 (by decide) (hts _ (gw kw_738 rfl)) (fun _ h9 => h9) rfl dX12_offersFools_13 ?_
        refine lv_bipush (v := 9) hx hb dX12_offersFools_16 (by decide) ?_
        refine lv_iload_n hx hb dX12_offersFools_18 rfl (lv_at hl 1 rfl) ?_
        refine lv_imul hx hb dX12_offersFools_19 ?_
        refine lv_topi (fun x_3 e_3 => ?_)
        have h9 : x_3 = nI (9 * i) := by rw [e_3]; exact pk_mul 9 i
        subst h9
        refine lv_iload_n hx hb dX12_offersFools_20 rfl (lv_at hl 1 rfl) ?_
        refine lv_iadd hx hb dX12_offersFools_21 ?_
        refine lv_topi (fun x_4 e_4 => ?_)
        have h9 : x_4 = nI (9 * i + i) := by rw [e_4, nI_add]
        subst h9
        have h_5 : vp_in (nI (9 * i + i)) 81 := by first | exact vp_in_nI (by omega) (by omega) | (unfold vp_in; decide) | (subst_vars; first | (unfold vp_in; decide) | exact vp_in_nI (by omega) (by omega))
        refine va_iald hx hb hK hP 2 0 rfl rfl h_5 dX12_offersFools_22 ?_
        refine lv_topi (fun x_6 e_6 => ?_)
        have h9 : x_6 = nI (sY O n i cf (k - (i + 1)) i) := by rw [e_6, nI_clamp (by omega)]; exact hrow i (by omega)
        subst h9
        refine lv_aload_n hx hb dX12_offersFools_23 rfl (lv_at hl 0 rfl) ?_
        refine va_get (D := (dC, dI)) (ci := 12) (v := Value.ref m_figure) (C := RX12) (T := TX12) (N := 33) hx hb hts inX12 hown hK hP 0 rfl rfl 2 (by decide) (hts _ (gw kw_719 rfl)) (fun _ h9 => h9) rfl dX12_offersFools_24 ?_
        refine lv_iload_n hx hb dX12_offersFools_27 rfl (lv_at hl 1 rfl) ?_
        have h_7 : vp_in (nI i) 9 := by first | exact vp_in_nI (by omega) (by omega) | (unfold vp_in; decide) | (subst_vars; first | (unfold vp_in; decide) | exact vp_in_nI (by omega) (by omega))
        refine va_iald hx hb hK hP 1 0 rfl rfl h_7 dX12_offersFools_28 ?_
        refine lv_topi (fun x_8 e_8 => ?_)
        have h9 : x_8 = nI cf := by rw [e_8, nI_clamp (by omega)]; exact hf
        subst h9
        refine lv_icmp_ge (tgt := 33) hx hb dX12_offersFools_29 (by decide) (fun c_9 => ?_) (fun c_9 => ?_)
        · have hce : cf ≤ sY O n i cf (k - (i + 1)) i := by
            rcases Nat.lt_or_ge (sY O n i cf (k - (i + 1)) i) cf with q | q
            · exact absurd c_9 (nI_ge q (by omega))
            · exact q
          refine lv_aload_n hx hb dX12_offersFools_33 rfl (lv_at hl 0 rfl) ?_
          refine lv_iload_n hx hb dX12_offersFools_34 rfl (lv_at hl 1 rfl) ?_
          refine lv_iload_n hx hb dX12_offersFools_35 rfl (lv_at hl 2 rfl) ?_
          refine lv_if_eq (tgt := 50) hx hb dX12_offersFools_36 (by decide) (fun c_10 => ?_) (fun c_10 => ?_)
          · exact absurd c_10 (by decide)
          · refine lv_aload_n hx hb dX12_offersFools_39 rfl (lv_at hl 0 rfl) ?_
            refine va_get (D := (dC, dI)) (ci := 12) (v := Value.int (nI n)) (C := RX12) (T := TX12) (N := 33) hx hb hts inX12 hown hK hP 0 rfl rfl 6 (by decide) (hts _ (gw kw_723 rfl)) (fun _ h9 => h9) rfl dX12_offersFools_40 ?_
            refine lv_iload_n hx hb dX12_offersFools_43 rfl (lv_at hl 1 rfl) ?_
            refine lv_iadd hx hb dX12_offersFools_44 ?_
            refine lv_topi (fun x_11 e_11 => ?_)
            have h9 : x_11 = nI (n + i) := by rw [e_11, nI_add]
            subst h9
            refine lv_iload_n hx hb dX12_offersFools_45 rfl (lv_at hl 3 rfl) ?_
            refine lv_isub hx hb dX12_offersFools_46 ?_
            refine lv_topi (fun x_12 e_12 => ?_)
            have h9 : x_12 = nI (n + i - k) := by rw [e_12]; exact pk_sub (by omega)
            subst h9
            refine lv_goto (tgt := 51) hx hb dX12_offersFools_47 (by decide) ?_
            refine lv_aload_n hx hb dX12_offersFools_51 rfl (lv_at hl 0 rfl) ?_
            refine va_get (D := (dC, dI)) (ci := 12) (v := Value.ref m_figure) (C := RX12) (T := TX12) (N := 33) hx hb hts inX12 hown hK hP 0 rfl rfl 2 (by decide) (hts _ (gw kw_719 rfl)) (fun _ h9 => h9) rfl dX12_offersFools_52 ?_
            refine lv_iload_n hx hb dX12_offersFools_55 rfl (lv_at hl 1 rfl) ?_
            have h_13 : vp_in (nI i) 9 := by first | exact vp_in_nI (by omega) (by omega) | (unfold vp_in; decide) | (subst_vars; first | (unfold vp_in; decide) | exact vp_in_nI (by omega) (by omega))
            refine va_iald hx hb hK hP 1 0 rfl rfl h_13 dX12_offersFools_56 ?_
            refine lv_topi (fun x_14 e_14 => ?_)
            have h9 : x_14 = nI cf := by rw [e_14, nI_clamp (by omega)]; exact hf
            subst h9
            have hpd9 := pdf_N (cx := [oX12 g0 m_refused m_kind m_figure m_weight m_got m_setting (nI n) msy mdn m_tape m_letter m_letterAt m_told tp mat stm m_kept him ki crs m_price m_offer m_gets m_yes m_buys m_ends m_carried m_row rm m_keptRow m_likeGets m_likePrice m_ahead, cI aC m_offer 81 oc]) hP hD hS hA [0, 2] (by decide) rfl
            have hPc := hpd9.1
            have hDc := hpd9.2.1
            have hFc := hpd9.2.2
            clear hpd9
            refine va_callv (va_runV (As := [Value.int (nI i), Value.int (nI (n + i - k)), Value.int (nI cf)]) (rest := []) ⟨hx, hb, hml, hown, hts⟩ (c_X12_offersEach l dC dI aC H.size g0 m_refused m_kind m_figure m_weight m_got m_setting m_tape m_letter m_letterAt m_told m_kept m_price m_offer m_gets m_yes m_buys m_ends m_carried m_row m_keptRow m_likeGets m_likePrice m_ahead msy mdn tp mat stm him ki crs rm n oc i (n + i - k) cf (sY O n i cf (k - (i + 1)) i) (by omega) (hrow i (by omega)) (⟨hce, hsl⟩)) ⟨(callB_of 3 hts (gG kw_945) rfl rfl rfl (hts _ (gw kw_13 rfl)) (hts _ (gw kw_942 rfl)) hd_X12_offersEach ⟨Nat.le_of_ble_eq_true rfl, Nat.le_of_ble_eq_true rfl⟩), (hts _ (gw kw_944 rfl)), (hts _ (gw ks_55 rfl))⟩ ⟨fb_std, va_recv (q := (RX12, TX12, 33)) hK hPc (ci := 12) (q0 := 0) rfl rfl, pre_std hPc hK hDc hN⟩ rfl rfl hl.1 rfl (lv_room (Nat.le_of_ble_eq_true rfl)) dX12_offersFools_57 ⟨Nat.le_of_ble_eq_true rfl, Nat.le_of_ble_eq_true rfl⟩) hS (fun q _ h => hFc q h) hFc (fun u9 t9 H1 locs ht hvm hw_15 hB hz1 hk1 hS => ?_)
            obtain ⟨u_16, rfl⟩ : ∃ z, z = u9 := ⟨_, rfl⟩
            obtain ⟨hP1, hK1, hD1⟩ := hB
            rw [ht] at hP1
            clear hK1
            try dsimp only at hw_15
            have hpd9 : PDx (dC, dI) classes A H1 [cI aC m_figure 9 ff, oX12 g0 m_refused m_kind m_figure m_weight m_got m_setting (nI n) msy mdn m_tape m_letter m_letterAt m_told tp mat stm m_kept him ki crs m_price m_offer m_gets m_yes m_buys m_ends m_carried m_row rm m_keptRow m_likeGets m_likePrice m_ahead, cI aC m_offer 81 u_16] := jn_N (wr := [cI aC m_figure 9 ff]) hFc hk1 hP1 hD1 hP hD [0, 2] [1] rfl rfl (by decide) (by decide)
            have hP := hpd9.1
            have hD := hpd9.2
            clear hpd9
            generalize H1 = H at hP hS ⊢
            clear hPc hDc hFc hz1 hk1 hP1 hD1 ht hvm
            have hb1 : ∀ q, q < n → u_16 (9 * i + q) = nI ((sY O n i cf (k + 1 - (i + 1))) q) := oe_row (j := (n + i - k)) (by omega) hw_15 rfl hrow (fun q _ => by rw [show k + 1 - (i + 1) = (k - (i + 1)) + 1 by omega]; show gv (sY O n i cf (k - (i + 1))) i (n - 1 - (k - (i + 1))) cf q = _; unfold gv; rw [if_pos hce, show n - 1 - (k - (i + 1)) = (n + i - k) by omega]; by_cases e : q = i <;> first | (rw [e, if_neg (by omega), if_pos rfl, if_pos rfl]; done) | (rw [if_neg e, if_neg e]))
            have hb2 := oe_fr (by omega) hw_15 hfr
            obtain ⟨x_17, e_17⟩ : ∃ y : Int32, y = (nI k) + 1 := ⟨_, rfl⟩
            refine lv_iinc (v := x_17) (lv' := [(3, Value.int x_17), (0, Value.ref g0), (1, Value.int (nI i)), (2, Value.int 1)]) hx hb dX12_offersFools_60 hl (k := 3) rfl (by rw [e_17]; rfl) (by decide) rfl (fun ls hl => ?_)
            have h9 : x_17 = nI (k + 1) := by rw [e_17, nI_1]
            subst h9
            refine lv_goto (tgt := 4) hx hb dX12_offersFools_63 (by decide) ?_
            exact ih_4 (k + 1) u_16 (ms_lt hlt hfu) (by omega) (hb1) (hb2) _ _ _ (hP.sub [1, 0, 2] rfl) (hD.sub [1, 0, 2] (by decide) rfl) hS (lv_sub hl [1, 2, 3, 0] rfl)
        · have hpd9 := pd_N (cx := [oX12 g0 m_refused m_kind m_figure m_weight m_got m_setting (nI n) msy mdn m_tape m_letter m_letterAt m_told tp mat stm m_kept him ki crs m_price m_offer m_gets m_yes m_buys m_ends m_carried m_row rm m_keptRow m_likeGets m_likePrice m_ahead, cI aC m_figure 9 ff, cI aC m_offer 81 oc]) hP hD [0, 1, 2] (by decide) rfl
          have hP9 := hpd9.1
          have hD9 := hpd9.2
          refine W.widen (k := 0) (n := 0) (by omega) (by omega) ?_
          exact W.vret hx hb hr (fun t ht hW => ⟨⟨(oc), rfl, ⟨fun q hq => by rw [hrow q hq, show n - 1 - i = (k - (i + 1)) + (n - k) by omega, sY_stay _ (by have h9 := c_9; rw [Int32.not_le, nI_ltI (by omega) (by omega)] at h9; omega)], hfr⟩, by rw [ht]; exact hP9, va_K.moved hW.alike hK, hD9⟩, hS.F ht⟩) hS.2.2 dX12_offersFools_32
  exact lp_4 ((n - (i + 1)) + 1) (i + 1) of (Nat.lt_succ_self _) (by omega) (fun q hq => by rw [Nat.sub_self]; exact hO q hq) (fun k _ => rfl) _ _ _ (hP.sub [0, 1, 2] rfl) (hD.sub [0, 1, 2] (by decide) rfl) hS (lv_sub hl [1, 2, 3, 0] rfl)

end

