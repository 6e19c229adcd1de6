/-- the greatest settings -/
def GV (j : Nat) : Int32 := match j with
  | 0 => 99
  | 1 => 2
  | 2 => 1
  | 3 => 1
  | _ => 99
theorem vin {i n : Int32} {N : Nat} (h0 : ¬ i < 0) (h1 : i < n) (hn : n.toInt = N) : vp_in i N := by
  rw [vp_in_iff]
  rw [Int32.lt_iff_toInt_lt] at h1
  rw [Int32.lt_iff_toInt_lt] at h0
  have h9 : (0 : Int32).toInt = 0 := rfl
  omega
def CR (f : Nat → Int32) (n : Int32) : Int32 := if n < 1 then -9 else if 6 < n then -9 else f n.toNatClampNeg
def cntX (f : Nat → Int32) (w : Int32) : Int32 := if w = 0 then 0 else if w = 1 then 0 else if w = 2 then 0 else if w = 3 then 0 else if w = 4 then 0 else if w = 5 then 0 else if w = 6 then 0 else CR f (w - 10)
def cntM (f : Nat → Int32) (w : Int32) : Int32 := if w < 11 ∨ 16 < w then (if w = 0 then 0 else if w = 1 then 0 else if w = 2 then 0 else if w = 3 then 0 else if w = 4 then 0 else if w = 5 then 0 else if w = 6 then 0 else -9) else f (w - 10).toNatClampNeg
theorem cr_key (z : Int) (h1 : -2147483648 ≤ z) (h2 : z < 2147483648) : ((z - 10).bmod 4294967296 < 1 ∨ 6 < (z - 10).bmod 4294967296) ↔ (z < 11 ∨ 16 < z) := by
  unfold Int.bmod
  dsimp only
  split <;> omega
theorem cr_in (w : Int32) : (w - 10 < 1 ∨ 6 < w - 10) ↔ (w < 11 ∨ 16 < w) := by
  simp only [Int32.lt_iff_toInt_lt, Int32.toInt_sub]
  exact cr_key w.toInt (Int32.le_toInt w) (Int32.toInt_lt w)
theorem cnt_eq (f : Nat → Int32) (w : Int32) : cntX f w = cntM f w := by
  unfold cntX cntM CR
  have h := cr_in w
  by_cases h1 : w < 11 ∨ 16 < w
  · rw [if_pos h1]
    have h2 := h.mpr h1
    by_cases h3 : w - 10 < 1
    · rw [if_pos h3]
    · rw [if_neg h3, if_pos (h2.resolve_left h3)]
  · rw [if_neg h1]
    have h2 : ¬ (w - 10 < 1 ∨ 6 < w - 10) := fun q => h1 (h.mp q)
    rw [if_neg (fun q => h2 (Or.inl q)), if_neg (fun q => h2 (Or.inr q))]
    have n0 : ∀ k : Int32, k < 11 → ¬ w = k := fun k hk q => h1 (Or.inl (q ▸ hk))
    rw [if_neg (n0 0 (by decide)), if_neg (n0 1 (by decide)), if_neg (n0 2 (by decide)), if_neg (n0 3 (by decide)), if_neg (n0 4 (by decide)), if_neg (n0 5 (by decide)), if_neg (n0 6 (by decide))]
