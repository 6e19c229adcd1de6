/-- what is known of an evening: its men (kinds, figures, weights), its settings, how far it has come -/
def EVS (n sn : Nat) (dn : Int32) (K F W S5 : Nat → Nat) (kf ff wf stf : Nat → Int32) : Prop :=
  EVH n K F W (S5 0) kf ff wf stf ∧ (∀ k, k < 5 → stf k = nI (S5 k)) ∧ (S5 1 ≤ 2 ∧ S5 2 ≤ 1 ∧ S5 3 ≤ 1 ∧ S5 4 ≤ 99) ∧ (sn < n ∨ sn = 0) ∧ (dn = 0 ∨ dn = 1)
/-- whether it is carried -/
def CAR (n : Nat) (W : Nat → Nat) (law : Int32) (i : Nat) (y : Int32) : Prop := nd law (sumr W i (n - i)) ≤ yw W y i (n - i)
/-- the evening behind a vote -/
def DCD (n sn : Nat) (dn : Int32) (W : Nat → Nat) (law y : Int32) (off pf pg : Nat → Int32) (sy2 dn2 : Int32) : Prop :=
  (CAR n W law sn y → sy2 = nI sn ∧ dn2 = 1 ∧ ∀ j, j < 8 → pg j = if sn ≤ j ∧ j < n then off j else pf j) ∧
  (¬ CAR n W law sn y → (∀ j, j < 8 → pg j = if j = sn then -1 else pf j) ∧ (sn + 1 < n → sy2 = nI (sn + 1) ∧ dn2 = dn) ∧ (¬ sn + 1 < n → sy2 = nI sn ∧ dn2 = 1))
def STL (st : Int32) (n : Nat) (pl : PLT) (ro rp rs : Nat → Nat) (g : Nat → Nat → Int32) (yf ef bf : Nat → Int32) : Prop := st = 1 ∨ (st = 0 ∧ ∀ i, i < n → MAT n pl ro rp rs g yf ef bf i)
def fov (bad : Nat → Bool) : Nat → Nat → Int32
  | _, 0 => -9
  | k, m + 1 => if bad k = true then nI (k + 1) else fov bad (k + 1) m
def BAD (sn : Nat) (v : Int32) (T P : Nat → Nat) (k : Nat) : Bool := decide (k = 0 ∨ P (sn + k) ≤ T k) != bt v (sn + k)
theorem fov_s {bad : Nat → Bool} {k m : Nat} (h : k < m) : fov bad k (m - k) = if bad k = true then nI (k + 1) else fov bad (k + 1) (m - (k + 1)) := by
  rw [show m - k = (m - (k + 1)) + 1 by omega]
  rfl
theorem sumr_s0 {f : Nat → Nat} {j : Nat} : sumr f 0 (j + 1) = sumr f 0 j + f j := by
  show _ + f (0 + j) = _
  rw [Nat.zero_add]
/-- who sits where -/
def sg (n : Nat) (orf : Nat → Int32) (q : Nat) : Nat := if orf q < 0 ∨ nI n ≤ orf q then q else (orf q).toNatClampNeg
theorem sg_lt {n : Nat} {orf : Nat → Int32} {q : Nat} (hn : n < 2 ^ 31) (hq : q < n) : sg n orf q < n := by
  unfold sg
  split
  · exact hq
  · rename_i h
    rcases pk_ix (orf q) hn with z | z | ⟨j, hj, e⟩
    · exact absurd (Or.inl z) h
    · exact absurd (Or.inr z) h
    · rw [e, nI_clamp (by omega)]; exact hj
theorem ix_of {x : Int32} {n : Nat} (hn : n < 2 ^ 31) (h0 : ¬ x < 0) (h1 : ¬ nI n ≤ x) : ∃ j, j < n ∧ x = nI j := by
  rcases pk_ix x hn with z | z | z
  · exact absurd z h0
  · exact absurd z h1
  · exact z
