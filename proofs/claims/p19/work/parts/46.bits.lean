theorem ab_p {z : Int} (hz : sm z) (h : 0 ≤ iI z) : iI z = nI z.toNat := by
  rw [← iI_0, iI_le sm0 hz] at h
  rw [nI_iI, Int.toNat_of_nonneg h]
theorem ab_n {z : Int} (hz : sm z) (h : ¬ 0 ≤ iI z) : (0 : Int32) = nI z.toNat := by
  rw [← iI_0, iI_le sm0 hz] at h
  rw [show z.toNat = 0 by omega]
  rfl
/-- what a man is offered at the last level v -/
theorem b_bit {x : Int32} {j : Nat} (hj : j < 32) : (x >>> (nI j &&& 31)) &&& 1 = if bt x j = true then 1 else 0 := by
  by_cases h : bt x j = true
  · rw [if_pos h]; exact (b_tst hj).mpr h
  · rw [if_neg h]
    apply b_ext
    intro i hi
    rw [b_and, b_0]
    by_cases e : i = 0
    · subst e
      rw [b_sshr j hj x (by omega)]
      simp only [Nat.add_zero, if_pos hj, Bool.eq_false_iff.mpr h, Bool.false_and]
    · have h1 : bt 1 i = false := by rw [b_1 hi, decide_eq_false e]
      rw [h1, Bool.and_false]
theorem b_mul {x : Int32} {j w : Nat} (hj : j < 32) : ((x >>> (nI j &&& 31)) &&& 1) * nI w = nI (if bt x j = true then w else 0) := by
  rw [b_bit hj]
  by_cases h : bt x j = true
  · rw [if_pos h, if_pos h]
    exact (pk_mul 1 w).trans (by rw [Nat.one_mul])
  · rw [if_neg h, if_neg h]
    exact (pk_mul 0 w).trans (by rw [Nat.zero_mul])
theorem yw_s0 {W : Nat → Nat} {y : Int32} {j : Nat} : yw W y 0 (j + 1) = yw W y 0 j + (if bt y j = true then W j else 0) := by
  show _ + (if bt y (0 + j) = true then W (0 + j) else 0) = _
  rw [Nat.zero_add]
  rfl
theorem b_xor (x y : Int32) (i : Nat) : bt (x ^^^ y) i = (bt x i ^^ bt y i) := by simp [bt]
theorem b_m1 : ∀ i, i < 32 → bt (-1) i = true := by decide +kernel
theorem b_not {x : Int32} {i : Nat} (hi : i < 32) : bt (x ^^^ (-1)) i = !bt x i := by rw [b_xor, b_m1 i hi]; simp
theorem yng_bits {n i : Nat} {l : Int32} (hi : i < n ∧ n ≤ 8) (hl : ∀ b, b < 32 → bt l b = decide (i ≤ b ∧ b < n)) : ∀ b, b < 32 → bt (l &&& ((1 : Int32) <<< (nI i &&& 31) ^^^ (-1))) b = decide (i < b ∧ b < n) := by
  intro b hb
  rw [b_and, b_not hb, hl b hb, b_one i (by omega) b hb]
  by_cases e : b = i
  · subst e
    rw [decide_eq_true (rfl : b = b), decide_eq_false (by omega : ¬ (b < b ∧ b < n))]
    simp
  · rw [decide_eq_false e, show decide (i ≤ b ∧ b < n) = decide (i < b ∧ b < n) from decide_eq_decide.mpr ⟨fun q => by omega, fun q => by omega⟩]
    simp
theorem p28 {n : Nat} (h : n ≤ 8) : 2 ^ n ≤ 256 := (Nat.pow_le_pow_right (by omega) h : 2 ^ n ≤ 2 ^ 8)
theorem bnd_mask {n i s : Nat} {l : Int32} (hi : i < n ∧ n ≤ 8) (hs : s < 2 ^ n) (hl : ∀ b, b < 32 → bt l b = decide (i < b ∧ b < n)) : nI s &&& (l ^^^ (-1)) = 0 ↔ BND n i s := by
  have h8 := p28 hi.2
  have hsb : ∀ q, q < 31 → bt (nI s) q = s.testBit q := fun q hq => b_get (by omega) hq
  constructor
  · intro h q hq
    have hqn : q < n := by
      rcases Nat.lt_or_ge q n with z | z
      · exact z
      · rw [Nat.testBit_lt_two_pow (Nat.lt_of_lt_of_le hs (Nat.pow_le_pow_right (by omega) z))] at hq
        exact absurd hq Bool.false_ne_true
    have h1 : bt (nI s &&& (l ^^^ (-1))) q = false := by rw [h, b_0]
    rw [b_and, b_not (by omega), hl q (by omega), hsb q (by omega), hq] at h1
    simp at h1
    omega
  · intro h
    apply b_ext
    intro q hq
    rw [b_and, b_0, b_not hq, hl q hq]
    by_cases e : q < 31
    · rw [hsb q e]
      cases h2 : s.testBit q with
      | false => rfl
      | true => rw [decide_eq_true (h q h2)]; rfl
    · have h31 : q = 31 := by omega
      subst h31
      have : bt (nI s) 31 = false := by
        unfold bt nI
        show (BitVec.ofNat 32 s).getLsbD 31 = _
        rw [BitVec.getLsbD_ofNat, Nat.testBit_lt_two_pow (by omega)]
        simp
      rw [this]
      rfl
theorem yw_cstm {Pq : Nat → Nat} {n i s : Nat} (hn : n ≤ 8) (hi : i < n) (hs : s < 2 ^ n) : yw Pq (nI s) (i + 1) (n - 1 - i) = cstm Pq n i s := by
  have h8 := p28 hn
  unfold yw cstm
  refine sumr_congr (fun q h1 h2 => ?_)
  rw [b_get (by omega) (by omega)]
theorem cstm_le {Pq : Nat → Nat} {n i s : Nat} (hn : n ≤ 8) (h : ∀ q, i < q → q < n → Pq q ≤ 110) : cstm Pq n i s ≤ 770 := by
  have := sumr_le (f := fun q => if s.testBit q = true then Pq q else 0) (a := i + 1) (b := 110) (k := n - 1 - i) (fun j h1 h2 => by
    have := h j (by omega) (by omega)
    split <;> omega)
  unfold cstm
  omega
/-- what buysBy answers -/
def BYR (n : Nat) (W : Nat → Nat) (cq : Nat) (law fst : Int32) (i : Nat) (Pq : Nat → Nat) (r : Int32) : Prop :=
  (r = -9 ∧ ∃ rb, BST (ENf n W law fst i Pq) (cst (fun u => Pq (mu fst n i u))) (2 ^ (n - 1 - i)) rb ∧ (rb = -9 ∨ ∃ b, b < 2 ^ (n - 1 - i) ∧ rb = nI b ∧ cq < cst (fun u => Pq (mu fst n i u)) b)) ∨
  ∃ s, s < 2 ^ n ∧ r = nI s ∧ BND n i s ∧ BST (ENf n W law fst i Pq) (cst (fun u => Pq (mu fst n i u))) (2 ^ (n - 1 - i)) (nI (us fst n i s)) ∧ cstm Pq n i s ≤ cq
theorem ub_y {x y : Int32} {i j : Nat} {P : Nat → Nat} (hj : i < j ∧ j < 8) (hx : ∀ b, b < 32 → bt x b = decide (i < b ∧ b < j ∧ P b = 0)) (hy : y = x ||| ((1 : Int32) <<< (nI j &&& 31))) (hP : P j = 0) : ∀ b, b < 32 → bt y b = decide (i < b ∧ b < j + 1 ∧ P b = 0) := by
  intro b hb
  rw [hy, b_or, hx b hb, b_one j hj.2 b hb]
  by_cases e : b = j
  · subst e
    rw [decide_eq_true (p := b = b) rfl, Bool.or_true, decide_eq_true ⟨hj.1, by omega, hP⟩]
  · rw [decide_eq_false (p := b = j) e, Bool.or_false]
    exact decide_eq_decide.mpr ⟨fun q => ⟨q.1, by omega, q.2.2⟩, fun q => ⟨q.1, by omega, q.2.2⟩⟩
theorem ub_n {x y : Int32} {i j : Nat} {P : Nat → Nat} (hx : ∀ b, b < 32 → bt x b = decide (i < b ∧ b < j ∧ P b = 0)) (hy : y = x ||| 0) (hP : ¬ P j = 0) : ∀ b, b < 32 → bt y b = decide (i < b ∧ b < j + 1 ∧ P b = 0) := by
  intro b hb
  rw [hy, b_or, hx b hb, b_0, Bool.or_false]
  refine decide_eq_decide.mpr ⟨fun q => ⟨q.1, by omega, q.2.2⟩, fun q => ⟨q.1, ?_, q.2.2⟩⟩
  rcases Nat.lt_or_ge b j with h | h
  · exact h
  · have e : b = j := by omega
    subst e
    exact absurd q.2.2 hP
theorem wx_bits {n i s : Nat} {u x : Int32} {Pq : Nat → Nat} (hi : i < n ∧ n ≤ 8) (hs : s < 2 ^ n) (hu : ∀ b, b < 32 → bt u b = decide (i < b ∧ b < n ∧ Pq b = 0)) (hx : x = (nI s ||| u) ||| ((1 : Int32) <<< (nI i &&& 31))) : ∀ q, q < n → bt x q = (decide (q = i) || decide (i < q ∧ Pq q = 0) || s.testBit q) := by
  have h8 := p28 hi.2
  intro q hq
  rw [hx, b_or, b_or, b_one i (by omega) q (by omega), hu q (by omega), b_get (by omega) (by omega), show decide (i < q ∧ q < n ∧ Pq q = 0) = decide (i < q ∧ Pq q = 0) from decide_eq_decide.mpr ⟨fun z => ⟨z.1, z.2.2⟩, fun z => ⟨z.1, hq, z.2⟩⟩]
  cases decide (q = i) <;> cases decide (i < q ∧ Pq q = 0) <;> cases s.testBit q <;> rfl
theorem sw_out6 {x : Int32} (h0 : ¬ x = 0) (h1 : ¬ x = 1) (h2 : ¬ x = 2) (h3 : ¬ x = 3) (h4 : ¬ x = 4) (h5 : ¬ x = 5) : x.toInt < 0 ∨ 5 < x.toInt := by
  have e0 := lv_neT h0 (a := 0) rfl
  have e1 := lv_neT h1 (a := 1) rfl
  have e2 := lv_neT h2 (a := 2) rfl
  have e3 := lv_neT h3 (a := 3) rfl
  have e4 := lv_neT h4 (a := 4) rfl
  have e5 := lv_neT h5 (a := 5) rfl
  omega
