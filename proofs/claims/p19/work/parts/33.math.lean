/-! sums over men, gifts, votes -/
def sumr (f : Nat → Nat) (a : Nat) : Nat → Nat
  | 0 => 0
  | k + 1 => sumr f a k + f (a + k)
theorem sumr_le {f : Nat → Nat} {a b : Nat} : ∀ {k : Nat}, (∀ j, a ≤ j → j < a + k → f j ≤ b) → sumr f a k ≤ b * k
  | 0, _ => Nat.zero_le _
  | k + 1, h => by
    have h1 := sumr_le (f := f) (a := a) (b := b) (k := k) (fun j q1 q2 => h j q1 (by omega))
    have h2 := h (a + k) (by omega) (by omega)
    show sumr f a k + f (a + k) ≤ b * (k + 1)
    rw [Nat.mul_succ]
    omega
theorem sumr_congr {f g : Nat → Nat} {a : Nat} : ∀ {k : Nat}, (∀ j, a ≤ j → j < a + k → f j = g j) → sumr f a k = sumr g a k
  | 0, _ => rfl
  | k + 1, h => by
    show sumr f a k + f (a + k) = sumr g a k + g (a + k)
    rw [sumr_congr (fun j h1 h2 => h j h1 (by omega)), h (a + k) (by omega) (by omega)]
def bt (x : Int32) (i : Nat) : Bool := x.toBitVec.getLsbD i
theorem b_ext {x y : Int32} (h : ∀ i, i < 32 → bt x i = bt y i) : x = y := by
  apply Int32.toBitVec_inj.mp
  apply BitVec.eq_of_getLsbD_eq
  intro i hi
  exact h i hi
theorem b_or (x y : Int32) (i : Nat) : bt (x ||| y) i = (bt x i || bt y i) := by simp [bt]
theorem b_and (x y : Int32) (i : Nat) : bt (x &&& y) i = (bt x i && bt y i) := by simp [bt]
theorem b_0 (i : Nat) : bt 0 i = false := by simp [bt]
theorem b_1 {i : Nat} (hi : i < 32) : bt 1 i = decide (i = 0) := (by decide +kernel : ∀ i, i < 32 → bt 1 i = decide (i = 0)) i hi
/-- one bit -/
theorem b_one : ∀ j, j < 8 → ∀ i, i < 32 → bt ((1 : Int32) <<< (nI j &&& 31)) i = decide (i = j) := by decide +kernel
theorem s_l : ∀ n, n < 32 → ((nI n &&& 31).toBitVec.smod 32).toNat = n := by decide +kernel
theorem b_sshr (n : Nat) (hn : n < 32) (x : Int32) {i : Nat} (hi : i < 32) : bt (x >>> (nI n &&& 31)) i = if n + i < 32 then bt x (n + i) else bt x 31 := by
  unfold bt
  rw [Int32.toBitVec_shiftRight]
  show (x.toBitVec.sshiftRight ((nI n &&& 31).toBitVec.smod 32).toNat).getLsbD i = _
  rw [s_l n hn, BitVec.getLsbD_sshiftRight, BitVec.msb_eq_getLsbD_last]
  simp [hi]
/-- the test of a bit, as Java writes it -/
theorem b_tst {x : Int32} {j : Nat} (hj : j < 32) : (x >>> (nI j &&& 31)) &&& 1 = 1 ↔ bt x j = true := by
  constructor
  · intro h
    have h1 : bt ((x >>> (nI j &&& 31)) &&& 1) 0 = true := by rw [h]; rfl
    rw [b_and, b_sshr j hj x (by omega)] at h1
    simp only [Nat.add_zero, if_pos hj, Bool.and_eq_true] at h1
    exact h1.1
  · intro h
    apply b_ext
    intro i hi
    rw [b_and]
    by_cases e : i = 0
    · subst e
      rw [b_sshr j hj x (by omega)]
      simp only [Nat.add_zero, if_pos hj, h]
      rfl
    · have h1 : bt 1 i = false := by rw [b_1 hi, decide_eq_false e]
      rw [h1]
      simp
/-- the weight of the yes votes from man a on -/
def yw (W : Nat → Nat) (y : Int32) (a k : Nat) : Nat := sumr (fun j => if bt y j = true then W j else 0) a k
def gv (O : Nat → Nat) (i j c : Nat) : Nat → Nat := fun q => if c ≤ O i then (if q = j then c else if q = i then O i - c else O q) else O q
def sE (O : Nat → Nat) (i c : Nat) : Nat → Nat → Nat
  | 0 => O
  | k + 1 => gv (sE O i c k) i (i + 1 + k) c
def sY (O : Nat → Nat) (n i c : Nat) : Nat → Nat → Nat
  | 0 => O
  | k + 1 => gv (sY O n i c k) i (n - 1 - k) c
theorem gv_le {O : Nat → Nat} {i j c : Nat} (hc : c ≤ 99) (h : ∀ q, O q ≤ 99) : ∀ q, gv O i j c q ≤ 99 := by
  intro q
  have h1 := h q
  have h2 := h i
  unfold gv
  repeat' split
  all_goals omega
theorem sE_le {O : Nat → Nat} {i c : Nat} (hc : c ≤ 99) (h : ∀ q, O q ≤ 99) : ∀ k q, sE O i c k q ≤ 99
  | 0, q => h q
  | k + 1, q => gv_le hc (sE_le hc h k) q
theorem sY_le {O : Nat → Nat} {n i c : Nat} (hc : c ≤ 99) (h : ∀ q, O q ≤ 99) : ∀ k q, sY O n i c k q ≤ 99
  | 0, q => h q
  | k + 1, q => gv_le hc (sY_le hc h k) q
theorem up_s {g : Nat → Nat → Int32} {a : Nat} {u : Nat → Int32} : va_up g a u a = u := if_pos rfl
theorem up_n {g : Nat → Nat → Int32} {a b : Nat} {u : Nat → Int32} (h : b ≠ a) : va_up g a u b = g b := if_neg h
