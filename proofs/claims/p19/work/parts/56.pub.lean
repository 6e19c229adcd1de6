/-- the plan of an evening, as a function of it -/
def PLN (n : Nat) (K F W S5 : Nat → Nat) (pl : PLT) : Prop := PLAN n K F W (S5 0) (nI (S5 1)) (nI (S5 2)) (nI (S5 3)) pl
noncomputable def PO (n : Nat) (K F W S5 : Nat → Nat) : PLT := @Classical.epsilon PLT ⟨(fun _ _ => 0, fun _ _ => 0, fun _ => 0, fun _ => 0, fun _ => 0, fun _ _ => 0)⟩ (PLN n K F W S5)
theorem PO_ok {n : Nat} {K F W S5 : Nat → Nat} (hn : n ≤ 8) (hcq : S5 0 ≤ 99) (hF : ∀ j, j < n → F j ≤ 9) (hK : ∀ j, j < n → K j ≤ 6) : PLN n K F W S5 (PO n K F W S5) := by
  have h : ∃ pl, PLN n K F W S5 pl := plan_ex hn hcq hF hK
  exact Classical.epsilon_spec h
theorem PO_ev {n : Nat} {K F W S5 : Nat → Nat} {kf ff wf stf : Nat → Int32} (h : EVH n K F W (S5 0) kf ff wf stf) : PLN n K F W S5 (PO n K F W S5) := PO_ok h.1 h.2.1 (HF_of h) (fun j hj => (h.2.2.2 j hj).1.2)
theorem PO_cl {n sn : Nat} {dn : Int32} {K F W S5 : Nat → Nat} {kf ff wf stf : Nat → Int32} (h : EVS n sn dn K F W S5 kf ff wf stf) : PLAN n K F W (S5 0) (stf 1) (stf 2) (stf 3) (PO n K F W S5) := by
  have := PO_ev h.1
  unfold PLN at this
  rw [h.2.1 1 (by omega), h.2.1 2 (by omega), h.2.1 3 (by omega)]
  exact this
theorem PO_nI {n sn : Nat} {dn : Int32} {K F W S5 : Nat → Nat} {kf ff wf stf : Nat → Int32} (h : EVS n sn dn K F W S5 kf ff wf stf) : PLAN n K F W (S5 0) (nI (S5 1)) (nI (S5 2)) (nI (S5 3)) (PO n K F W S5) := PO_ev h.1
/-- a man's number -/
abbrev OKI (n : Nat) (i : Int32) : Prop := ¬ i < 0 ∧ ¬ nI n ≤ i
theorem has_y {n : Nat} {i r : Int32} (h : r = if i < 0 then 0 else if nI n ≤ i then 0 else 1) (hr : r ≠ 0) : OKI n i := by
  by_cases h1 : i < 0
  · rw [if_pos h1] at h; exact absurd h hr
  · by_cases h2 : nI n ≤ i
    · rw [if_neg h1, if_pos h2] at h; exact absurd h hr
    · exact ⟨h1, h2⟩
theorem has_n {n : Nat} {i r : Int32} (h : r = if i < 0 then 0 else if nI n ≤ i then 0 else 1) (hr : r = 0) : ¬ OKI n i := fun q => by
  rw [if_neg q.1, if_neg q.2, hr] at h
  exact absurd h (by decide)
theorem OKI_ix {n : Nat} {i : Int32} (hn : n ≤ 8) (h : OKI n i) : ∃ j, j < n ∧ i = nI j := ix_of (by omega) h.1 h.2
theorem OKI_nI {n j : Nat} (hn : n ≤ 8) (h : j < n) : OKI n (nI j) := ⟨nI_pos (by omega), fun q => by
  have := (nI_leI (by omega) (by omega)).mp q
  omega⟩
def rOff (n : Nat) (pl : PLT) (i j : Int32) : Int32 := if OKI n i ∧ OKI n j ∧ ¬ j < i then nI (zO pl i.toNatClampNeg j.toNatClampNeg) else -1
def rPri (n : Nat) (pl : PLT) (i j : Int32) : Int32 := if OKI n i ∧ OKI n j then (if i < j then nI (zP pl i.toNatClampNeg j.toNatClampNeg) else -9) else -1
def rGet (n : Nat) (pl : PLT) (i j : Int32) : Int32 := if OKI n i ∧ OKI n j ∧ ¬ j < i then iI (zS pl i.toNatClampNeg j.toNatClampNeg) else 1000000001
def rVot (n : Nat) (pl : PLT) (i : Int32) : Int32 := if OKI n i then zY pl i.toNatClampNeg else -1
def rEnd (n : Nat) (pl : PLT) (i : Int32) : Int32 := if OKI n i then zE pl i.toNatClampNeg else -1
def rBou (n : Nat) (pl : PLT) (i : Int32) : Int32 := if OKI n i then zB pl i.toNatClampNeg else -1
def rCar (n : Nat) (pl : PLT) (i : Int32) : Int32 := if OKI n i then (if zE pl i.toNatClampNeg = i then 1 else 0) else -1
theorem zE_ge {n : Nat} {K F W : Nat → Nat} {cq : Nat} {law tie fst : Int32} {pl : PLT} (h : PLAN n K F W cq law tie fst pl) : ∀ k i, n - i ≤ k → i < n → ∃ e, i ≤ e ∧ e < n ∧ zE pl i = nI e := by
  intro k
  induction k with
  | zero => intro i h1 h2; omega
  | succ k ih =>
    intro i h1 h2
    obtain ⟨-, -, -, c1, c2⟩ := (h i h2).1
    by_cases hc : CNDs n W law i (zY pl i)
    · exact ⟨i, Nat.le_refl _, h2, (c1 hc).1⟩
    · obtain ⟨e, e1, e2, e3⟩ := ih (i + 1) (by omega) (Nat.lt_of_not_le fun q => hc (Or.inl q))
      exact ⟨e, by omega, e2, (c2 hc).1.trans e3⟩
theorem zE_iff {n : Nat} {K F W : Nat → Nat} {cq : Nat} {law tie fst : Int32} {pl : PLT} (hn : n ≤ 8) (h : PLAN n K F W cq law tie fst pl) {i : Nat} (hi : i < n) : CNDs n W law i (zY pl i) ↔ zE pl i = nI i := by
  obtain ⟨-, -, -, c1, c2⟩ := (h i hi).1
  constructor
  · intro hc; exact (c1 hc).1
  · intro he
    by_cases hc : CNDs n W law i (zY pl i)
    · exact hc
    · obtain ⟨e, e1, e2, e3⟩ := zE_ge h n (i + 1) (by omega) (Nat.lt_of_not_le fun q => hc (Or.inl q))
      have : nI i = nI e := he.symm.trans ((c2 hc).1.trans e3)
      have := (nI_eq (by omega) (by omega)).mp this
      omega
theorem EVS_n {n sn : Nat} {dn : Int32} {K F W S5 : Nat → Nat} {kf ff wf stf : Nat → Int32} (h : EVS n sn dn K F W S5 kf ff wf stf) : n ≤ 8 := h.1.1
