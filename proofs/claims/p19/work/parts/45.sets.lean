/-! sums over men and over units; sets of men -/
theorem sumr_add {f g : Nat → Nat} {a : Nat} : ∀ {k : Nat}, sumr f a k + sumr g a k = sumr (fun j => f j + g j) a k
  | 0 => rfl
  | k + 1 => by
    show sumr f a k + f (a + k) + (sumr g a k + g (a + k)) = sumr (fun j => f j + g j) a k + (f (a + k) + g (a + k))
    rw [← sumr_add (f := f) (g := g) (a := a) (k := k)]
    omega
theorem sumr_split {f : Nat → Nat} {a k : Nat} : ∀ {d : Nat}, sumr f a (k + d) = sumr f a k + sumr f (a + k) d
  | 0 => rfl
  | d + 1 => by
    show sumr f a (k + d) + f (a + (k + d)) = sumr f a k + (sumr f (a + k) d + f (a + k + d))
    rw [sumr_split (f := f) (a := a) (k := k) (d := d), Nat.add_assoc a k d]
    omega
theorem sumr_cons {f : Nat → Nat} {a k : Nat} : sumr f a (k + 1) = f a + sumr f (a + 1) k := by
  rw [show k + 1 = 1 + k by omega, sumr_split]
  show 0 + f (a + 0) + _ = _
  rw [Nat.zero_add, Nat.add_zero]
theorem sumr_sh {f : Nat → Nat} {a b : Nat} : ∀ {k : Nat}, sumr (fun u => f (a + u)) b k = sumr f (a + b) k
  | 0 => rfl
  | k + 1 => by
    show sumr (fun u => f (a + u)) b k + f (a + (b + k)) = sumr f (a + b) k + f (a + b + k)
    rw [sumr_sh (f := f) (a := a) (b := b) (k := k), Nat.add_assoc]
theorem sumr_rev {f : Nat → Nat} {a : Nat} : ∀ (k : Nat), sumr (fun u => f (a + k - 1 - u)) 0 k = sumr f a k
  | 0 => rfl
  | k + 1 => by
    rw [sumr_cons]
    show f (a + (k + 1) - 1 - 0) + sumr (fun u => f (a + (k + 1) - 1 - u)) 1 k = sumr f a k + f (a + k)
    have h := sumr_sh (f := fun u => f (a + (k + 1) - 1 - u)) (a := 1) (b := 0) (k := k)
    have h2 := sumr_rev (f := f) (a := a) k
    rw [Nat.add_zero] at h
    rw [← h, ← h2, show a + (k + 1) - 1 - 0 = a + k by omega, Nat.add_comm]
    congr 1
    exact sumr_congr (fun j h1 h2 => by congr 1; omega)
theorem sumr_mu {f : Nat → Nat} {fst : Int32} {n i : Nat} (h : i < n) : sumr (fun u => f (mu fst n i u)) 0 (n - 1 - i) = sumr f (i + 1) (n - 1 - i) := by
  unfold mu
  by_cases e : fst = 0
  · simp only [if_pos e]
    rw [← sumr_rev (f := f) (a := i + 1) (n - 1 - i)]
    exact sumr_congr (fun j h1 h2 => by congr 1; omega)
  · simp only [if_neg e]
    exact sumr_sh (f := f) (a := i + 1) (b := 0)
theorem sumr_ext0 {f : Nat → Nat} {a k d : Nat} (h : ∀ j, a + k ≤ j → j < a + k + d → f j = 0) : sumr f a (k + d) = sumr f a k := by
  rw [sumr_split, sumr_zero h, Nat.add_zero]
def num (f : Nat → Bool) : Nat → Nat
  | 0 => 0
  | y + 1 => num f y + (if f y = true then 2 ^ y else 0)
theorem num_lt {f : Nat → Bool} : ∀ y, num f y < 2 ^ y
  | 0 => Nat.one_pos
  | y + 1 => by
    have h := num_lt (f := f) y
    show num f y + (if f y = true then 2 ^ y else 0) < 2 ^ (y + 1)
    rw [Nat.pow_succ]
    split <;> omega
theorem num_bit {f : Nat → Bool} {u : Nat} : ∀ y, (num f y).testBit u = (decide (u < y) && f u)
  | 0 => by show (0 : Nat).testBit u = _; simp
  | y + 1 => by
    have h := num_bit (f := f) (u := u) y
    have hl := num_lt (f := f) y
    show (num f y + (if f y = true then 2 ^ y else 0)).testBit u = _
    by_cases e : f y = true
    · rw [if_pos e, Nat.add_comm]
      rcases Nat.lt_trichotomy u y with q | q | q
      · rw [Nat.testBit_two_pow_add_gt q, h, decide_eq_true q, decide_eq_true (by omega : u < y + 1)]
      · subst q
        rw [Nat.testBit_two_pow_add_eq, Nat.testBit_lt_two_pow hl, decide_eq_true (by omega : u < u + 1), e]
        rfl
      · rw [Nat.testBit_lt_two_pow (Nat.lt_of_lt_of_le (by rw [Nat.pow_succ]; omega : 2 ^ y + num f y < 2 ^ (y + 1)) (Nat.pow_le_pow_right (by omega) q)), decide_eq_false (by omega : ¬ u < y + 1)]
        rfl
    · rw [if_neg e, Nat.add_zero, h]
      by_cases q : u = y
      · subst q
        rw [decide_eq_false (by omega : ¬ u < u), decide_eq_true (by omega : u < u + 1)]
        simp [e]
      · rw [decide_eq_decide.mpr (⟨fun z => by omega, fun z => by omega⟩ : u < y ↔ u < y + 1)]
/-- the units of a set of men; the men of a set of units -/
def us (fst : Int32) (n i s : Nat) : Nat := num (fun u => s.testBit (mu fst n i u)) (n - 1 - i)
def BND (n i s : Nat) : Prop := ∀ q, s.testBit q = true → i < q ∧ q < n
def un (fst : Int32) (n i q : Nat) : Nat := if fst = 0 then n - 1 - q else q - (i + 1)
theorem mu_un {fst : Int32} {n i q : Nat} (h : i < q ∧ q < n) : mu fst n i (un fst n i q) = q ∧ un fst n i q < n - 1 - i := by
  unfold mu un
  by_cases e : fst = 0
  · simp only [if_pos e]; omega
  · simp only [if_neg e]; omega
theorem un_mu {fst : Int32} {n i u : Nat} (h : u < n - 1 - i) : un fst n i (mu fst n i u) = u := by
  unfold mu un
  by_cases e : fst = 0
  · simp only [if_pos e]; omega
  · simp only [if_neg e]; omega
theorem us_lt {fst : Int32} {n i s : Nat} : us fst n i s < 2 ^ (n - 1 - i) := num_lt _
theorem us_bit {fst : Int32} {n i s u : Nat} : (us fst n i s).testBit u = (decide (u < n - 1 - i) && s.testBit (mu fst n i u)) := num_bit _
def ms (fst : Int32) (n i z : Nat) : Nat := num (fun q => decide (i < q) && z.testBit (un fst n i q)) n
theorem ms_bit {fst : Int32} {n i z q : Nat} : (ms fst n i z).testBit q = (decide (q < n) && (decide (i < q) && z.testBit (un fst n i q))) := num_bit _
theorem msl {fst : Int32} {n i z : Nat} : ms fst n i z < 2 ^ n := num_lt _
theorem ms_bnd {fst : Int32} {n i z : Nat} : BND n i (ms fst n i z) := by
  intro q h
  rw [ms_bit] at h
  simp only [Bool.and_eq_true, decide_eq_true_eq] at h
  exact ⟨h.2.1, h.1⟩
theorem us_ms {fst : Int32} {n i z : Nat} (hi : i < n) (h : z < 2 ^ (n - 1 - i)) : us fst n i (ms fst n i z) = z := by
  apply Nat.eq_of_testBit_eq
  intro u
  rw [us_bit, ms_bit]
  by_cases e : u < n - 1 - i
  · have h2 := mu_in (fst := fst) (n := n) (i := i) (u := u) (by omega)
    rw [decide_eq_true e, decide_eq_true h2.1, decide_eq_true h2.2, un_mu e]
    simp
  · have h3 : z.testBit u = false := Nat.testBit_lt_two_pow (Nat.lt_of_lt_of_le h (Nat.pow_le_pow_right (by omega) (by omega)))
    rw [decide_eq_false e, h3]
    rfl
/-- the cost of a set of men -/
def cstm (Pq : Nat → Nat) (n i s : Nat) : Nat := sumr (fun q => if s.testBit q = true then Pq q else 0) (i + 1) (n - 1 - i)
theorem cst_cut {f : Nat → Nat} {s y : Nat} (hs : s < 2 ^ y) (hy : y ≤ 7) : cst f s = sumr (fun u => if s.testBit u = true then f u else 0) 0 y := by
  unfold cst
  rw [show 7 = y + (7 - y) by omega]
  refine sumr_ext0 (fun j h1 h2 => ?_)
  rw [Nat.testBit_lt_two_pow (Nat.lt_of_lt_of_le hs (Nat.pow_le_pow_right (by omega) (by omega)))]
  rfl
theorem cst_us {Pq : Nat → Nat} {fst : Int32} {n i s : Nat} (hi : i < n) (hn : n ≤ 8) : cst (fun u => Pq (mu fst n i u)) (us fst n i s) = cstm Pq n i s := by
  rw [cst_cut us_lt (by omega)]
  unfold cstm
  rw [← sumr_mu (fst := fst) hi]
  refine sumr_congr (fun u h1 h2 => ?_)
  rw [us_bit, decide_eq_true (by omega : u < n - 1 - i), Bool.true_and]
theorem wt_us {W Pq : Nat → Nat} {fst : Int32} {n i s : Nat} {x : Int32} (hi : i < n) (hn : n ≤ 8) (hs : BND n i s) (hx : ∀ q, q < n → bt x q = (decide (q = i) || decide (i < q ∧ Pq q = 0) || s.testBit q)) :
    yw W x 0 n = W i + sumr (frf fst n i Pq W) 0 (n - 1 - i) + cst (uwf fst n i Pq W) (us fst n i s) := by
  rw [cst_cut us_lt (by omega)]
  have e1 : sumr (frf fst n i Pq W) 0 (n - 1 - i) = sumr (fun q => if 0 < Pq q then 0 else W q) (i + 1) (n - 1 - i) := (sumr_mu (f := fun q => if 0 < Pq q then 0 else W q) (fst := fst) hi)
  have e2 : sumr (fun u => if (us fst n i s).testBit u = true then uwf fst n i Pq W u else 0) 0 (n - 1 - i) = sumr (fun q => if s.testBit q = true then (if 0 < Pq q then W q else 0) else 0) (i + 1) (n - 1 - i) := by
    rw [← sumr_mu (fst := fst) hi]
    refine sumr_congr (fun u h1 h2 => ?_)
    rw [us_bit, decide_eq_true (by omega : u < n - 1 - i), Bool.true_and]
    rfl
  rw [e1, e2, Nat.add_assoc, sumr_add]
  unfold yw
  have e3 : n = i + (1 + (n - 1 - i)) := by omega
  have e4 : sumr (fun j => if bt x j = true then W j else 0) 0 n = sumr (fun j => if bt x j = true then W j else 0) 0 (i + (1 + (n - 1 - i))) := congrArg _ e3
  rw [e4, sumr_split, sumr_split, sumr_zero (fun j h1 h2 => ?_)]
  · show 0 + (0 + (if bt x (0 + i + 0) = true then W (0 + i + 0) else 0) + sumr _ (0 + i + 1) (n - 1 - i)) = _
    rw [show 0 + i + 0 = i by omega, show 0 + i + 1 = i + 1 by omega, hx i hi, decide_eq_true (rfl : i = i)]
    simp only [Bool.true_or, if_true, Nat.zero_add]
    congr 1
    refine sumr_congr (fun q h1 h2 => ?_)
    rw [hx q (by omega), decide_eq_false (by omega : ¬ q = i), Bool.false_or]
    by_cases e5 : Pq q = 0
    · rw [decide_eq_true (⟨by omega, e5⟩ : i < q ∧ Pq q = 0), if_neg (by omega : ¬ 0 < Pq q), if_neg (by omega : ¬ 0 < Pq q)]
      simp
    · rw [decide_eq_false (fun z => e5 z.2 : ¬ (i < q ∧ Pq q = 0)), if_pos (by omega : 0 < Pq q), if_pos (by omega : 0 < Pq q), Bool.false_or, Nat.zero_add]
  · rw [hx j (by omega), decide_eq_false (by omega : ¬ j = i), decide_eq_false (by omega : ¬ (i < j ∧ Pq j = 0))]
    have : s.testBit j = false := Bool.eq_false_iff.mpr (fun z => by have := hs j z; omega)
    rw [this]
    rfl
theorem yw_from {W : Nat → Nat} {y : Int32} {i n : Nat} (hi : i ≤ n) (h : ∀ q, q < i → bt y q = false) : yw W y 0 n = yw W y i (n - i) := by
  unfold yw
  have e3 : n = i + (n - i) := by omega
  have e4 : sumr (fun j => if bt y j = true then W j else 0) 0 n = sumr (fun j => if bt y j = true then W j else 0) 0 (i + (n - i)) := congrArg _ e3
  rw [e4, sumr_split, sumr_zero (fun j _ h2 => by rw [h j (by omega)]; rfl), Nat.zero_add, Nat.zero_add]
theorem yw_left {W : Nat → Nat} {y : Int32} {i n : Nat} (hi : i ≤ n) (hn : n ≤ 8) (h : ∀ b, b < 32 → bt y b = decide (i ≤ b ∧ b < n)) : yw W y 0 n = sumr W i (n - i) := by
  rw [yw_from hi (fun q hq => by rw [h q (by omega), decide_eq_false (by omega)])]
  refine sumr_congr (fun j h1 h2 => ?_)
  rw [h j (by omega), decide_eq_true (by omega)]
  rfl
theorem left_bits : ∀ n, n < 9 → ∀ i, i < n + 1 → ∀ b, b < 32 → bt ((1 : Int32) <<< (nI n &&& 31) - (1 : Int32) <<< (nI i &&& 31)) b = decide (i ≤ b ∧ b < n) := by decide +kernel
theorem lt_tb {x y : Nat} (i : Nat) (hx : x.testBit i = false) (hy : y.testBit i = true) (h : ∀ j, i < j → x.testBit j = y.testBit j) : x < y := by
  have h1 : x / 2 ^ (i + 1) = y / 2 ^ (i + 1) := by
    apply Nat.eq_of_testBit_eq
    intro u
    rw [Nat.testBit_div_two_pow, Nat.testBit_div_two_pow]
    exact h _ (by omega)
  rw [Nat.testBit_eq_decide_div_mod_eq] at hx hy
  have hx := of_decide_eq_false hx
  have hy := of_decide_eq_true hy
  rw [Nat.pow_succ, ← Nat.div_div_eq_div_mul, ← Nat.div_div_eq_div_mul] at h1
  rcases Nat.lt_or_ge x y with q | q
  · exact q
  · have := Nat.div_le_div_right (c := 2 ^ i) q
    omega
/-- who of two sets of men is ahead: the one with the greater units -/
theorem ah_lt {fst : Int32} {n i x y q : Nat} (hq : i < q ∧ q < n) (hx : x.testBit q = false) (hy : y.testBit q = true) (h : ∀ p, i < p → p < n → (if fst = 0 then p < q else q < p) → x.testBit p = y.testBit p) : us fst n i x < us fst n i y := by
  have hm := mu_un (fst := fst) hq
  refine lt_tb (un fst n i q) ?_ ?_ ?_
  · rw [us_bit, hm.1, hx, Bool.and_false]
  · rw [us_bit, hm.1, hy, decide_eq_true hm.2]; rfl
  · intro u hu
    rw [us_bit, us_bit]
    by_cases e : u < n - 1 - i
    · have h2 := mu_in (fst := fst) (n := n) (i := i) (u := u) (by omega)
      rw [h (mu fst n i u) h2.1 h2.2]
      unfold un at hu
      unfold mu
      by_cases e2 : fst = 0
      · rw [if_pos e2] at hu ⊢
        rw [if_pos e2]
        omega
      · rw [if_neg e2] at hu ⊢
        rw [if_neg e2]
        omega
    · rw [decide_eq_false e]; rfl
theorem ah_eq {fst : Int32} {n i x y : Nat} (hi : i < n) (h : ∀ p, i < p → p < n → x.testBit p = y.testBit p) : us fst n i x = us fst n i y := by
  apply Nat.eq_of_testBit_eq
  intro u
  rw [us_bit, us_bit]
  by_cases e : u < n - 1 - i
  · have h2 := mu_in (fst := fst) (n := n) (i := i) (u := u) (by omega)
    rw [h _ h2.1 h2.2]
  · rw [decide_eq_false e]; rfl
/-- the best of the sets of men below x -/
def BSM (C : Nat → Prop) (ct u : Nat → Nat) (x : Nat) (bl : Int32) : Prop := (bl = -9 ∧ ∀ z, z < x → ¬ C z) ∨ ∃ b, b < x ∧ bl = nI b ∧ C b ∧ ∀ z, z < x → C z → ct b < ct z ∨ (ct b = ct z ∧ u z ≤ u b)
theorem BSM_0 {C : Nat → Prop} {ct u : Nat → Nat} : BSM C ct u 0 (-9) := Or.inl ⟨rfl, fun z h => absurd h (Nat.not_lt_zero z)⟩
theorem BSM_no {C : Nat → Prop} {ct u : Nat → Nat} {x : Nat} {bl : Int32} (h : BSM C ct u x bl) (hx : ¬ C x) : BSM C ct u (x + 1) bl := by
  rcases h with ⟨h1, h2⟩ | ⟨b, h1, h2, h3, h4⟩
  · refine Or.inl ⟨h1, fun z hz => ?_⟩
    by_cases e : z = x
    · rw [e]; exact hx
    · exact h2 z (by omega)
  · refine Or.inr ⟨b, by omega, h2, h3, fun z hz hE => ?_⟩
    by_cases e : z = x
    · rw [e] at hE; exact absurd hE hx
    · exact h4 z (by omega) hE
theorem BSM_dear {C : Nat → Prop} {ct u : Nat → Nat} {x b : Nat} {bl : Int32} (h1 : b < x) (h2 : bl = nI b) (h3 : C b) (h4 : ∀ z, z < x → C z → ct b < ct z ∨ (ct b = ct z ∧ u z ≤ u b)) (hx : ct b < ct x ∨ (ct b = ct x ∧ u x ≤ u b)) : BSM C ct u (x + 1) bl := by
  refine Or.inr ⟨b, by omega, h2, h3, fun z hz hE => ?_⟩
  by_cases e : z = x
  · rw [e]; exact hx
  · exact h4 z (by omega) hE
theorem BSM_first {C : Nat → Prop} {ct u : Nat → Nat} {x : Nat} (h : ∀ z, z < x → ¬ C z) (hx : C x) : BSM C ct u (x + 1) (nI x) := by
  refine Or.inr ⟨x, by omega, rfl, hx, fun z hz hE => ?_⟩
  by_cases e : z = x
  · rw [e]; exact Or.inr ⟨rfl, Nat.le_refl _⟩
  · exact absurd hE (h z (by omega))
theorem BSM_take {C : Nat → Prop} {ct u : Nat → Nat} {x b : Nat} (h4 : ∀ z, z < x → C z → ct b < ct z ∨ (ct b = ct z ∧ u z ≤ u b)) (hx : C x) (hc : ct x < ct b ∨ (ct x = ct b ∧ u b ≤ u x)) : BSM C ct u (x + 1) (nI x) := by
  refine Or.inr ⟨x, by omega, rfl, hx, fun z hz hE => ?_⟩
  by_cases e : z = x
  · rw [e]; exact Or.inr ⟨rfl, Nat.le_refl _⟩
  · rcases h4 z (by omega) hE with h | ⟨h, h'⟩
    · exact Or.inl (by omega)
    · omega
/-- a set of men with which it is carried -/
def CM (n : Nat) (W : Nat → Nat) (law fst : Int32) (i : Nat) (Pq : Nat → Nat) (s : Nat) : Prop := BND n i s ∧ ENf n W law fst i Pq (us fst n i s)
theorem bm_fin {n : Nat} {W : Nat → Nat} {law fst : Int32} {i : Nat} {Pq : Nat → Nat} {bl : Int32} (hi : i < n) (hn : n ≤ 8) (h : BSM (CM n W law fst i Pq) (cstm Pq n i) (us fst n i) (2 ^ n) bl) :
    (bl = -9 ∧ BST (ENf n W law fst i Pq) (cst (fun u => Pq (mu fst n i u))) (2 ^ (n - 1 - i)) (-9)) ∨ ∃ b, b < 2 ^ n ∧ bl = nI b ∧ BND n i b ∧ BST (ENf n W law fst i Pq) (cst (fun u => Pq (mu fst n i u))) (2 ^ (n - 1 - i)) (nI (us fst n i b)) := by
  rcases h with ⟨h1, h2⟩ | ⟨b, h1, h2, h3, h4⟩
  · refine Or.inl ⟨h1, Or.inl ⟨rfl, fun z hz hE => h2 (ms fst n i z) msl ⟨ms_bnd, ?_⟩⟩⟩
    rw [us_ms hi hz]; exact hE
  · refine Or.inr ⟨b, h1, h2, h3.1, Or.inr ⟨us fst n i b, us_lt, rfl, h3.2, fun z hz hE => ?_⟩⟩
    have h5 := h4 (ms fst n i z) msl ⟨ms_bnd, by rw [us_ms hi hz]; exact hE⟩
    rw [← cst_us (fst := fst) hi hn, ← cst_us (fst := fst) hi hn, us_ms hi hz] at h5
    exact h5
theorem mb_us {fst : Int32} {n i b q : Nat} (hi : i < n) (hb : BND n i b) : mb fst n i (us fst n i b) (n - 1 - i) q = b.testBit q := by
  cases h : b.testBit q with
  | true =>
    have h1 := hb q h
    have h2 := mu_un (fst := fst) h1
    unfold mb
    rw [List.any_eq_true]
    refine ⟨un fst n i q, List.mem_range.mpr h2.2, ?_⟩
    rw [us_bit, h2.1, h, decide_eq_true h2.2, decide_eq_true (rfl : q = q)]
    rfl
  | false =>
    rw [Bool.eq_false_iff]
    intro h2
    obtain ⟨u, p1, p2, p3⟩ := mb_ex h2
    rw [us_bit, p3, h, Bool.and_false] at p2
    exact absurd p2 Bool.false_ne_true
