/-! the plan of an evening: one STAGE a man -/
abbrev PLT := (Nat → Nat → Nat) × (Nat → Nat → Nat) × (Nat → Int32) × (Nat → Int32) × (Nat → Int32) × (Nat → Nat → Int)
def zP (x : PLT) : Nat → Nat → Nat := x.1
def zO (x : PLT) : Nat → Nat → Nat := x.2.1
def zB (x : PLT) : Nat → Int32 := x.2.2.1
def zY (x : PLT) : Nat → Int32 := x.2.2.2.1
def zE (x : PLT) : Nat → Int32 := x.2.2.2.2.1
def zS (x : PLT) : Nat → Nat → Int := x.2.2.2.2.2
def PLAN (n : Nat) (K F W : Nat → Nat) (cq : Nat) (law tie fst : Int32) (pl : PLT) : Prop := ∀ i, i < n →
  STAGE n K F W cq law tie fst i (zS pl (i + 1)) (zE pl (i + 1)) (zP pl i) (zO pl i) (zB pl i) (zY pl i) (zE pl i) (zS pl i) ∧ (∀ q, zO pl i q ≤ 99) ∧ ∀ q, -1 ≤ zS pl i q ∧ zS pl i q ≤ 99
theorem BST_un {EN : Nat → Prop} {ct : Nat → Nat} {x : Nat} {a b : Int32} (ha : BST EN ct x a) (hb : BST EN ct x b) : a = b := by
  rcases ha with ⟨a1, a2⟩ | ⟨p, a1, a2, a3, a4⟩
  · rcases hb with ⟨b1, b2⟩ | ⟨q, b1, b2, b3, b4⟩
    · rw [a1, b1]
    · exact absurd b3 (a2 q b1)
  · rcases hb with ⟨b1, b2⟩ | ⟨q, b1, b2, b3, b4⟩
    · exact absurd a3 (b2 p a1)
    · have h1 := a4 q b1 b3
      have h2 := b4 p a1 a3
      have e : p = q := by omega
      rw [a2, b2, e]
theorem BUYS_un {n : Nat} {W : Nat → Nat} {cq : Nat} {law fst : Int32} {i : Nat} {Pq O O' : Nat → Nat} {B B' : Int32} (h : BUYS n W cq law fst i Pq O B) (h' : BUYS n W cq law fst i Pq O' B') : (∀ q, q < 8 → O q = O' q) ∧ B = B' := by
  obtain ⟨r, h1, h2, h3⟩ := h
  obtain ⟨r', h1', h2', h3'⟩ := h'
  have e := BST_un h1 h1'
  subst e
  by_cases hb : ∃ b, b < 2 ^ (n - 1 - i) ∧ r = nI b ∧ cst (fun u => Pq (mu fst n i u)) b ≤ cq
  · obtain ⟨b, p1, p2, p3⟩ := hb
    obtain ⟨q1, q2⟩ := h2 b p1 p2 p3
    obtain ⟨q1', q2'⟩ := h2' b p1 p2 p3
    exact ⟨fun q hq => (q2 q hq).trans (q2' q hq).symm, b_ext (fun k hk => (q1 k hk).trans (q1' k hk).symm)⟩
  · have hnone : r = -9 ∨ ∃ b, b < 2 ^ (n - 1 - i) ∧ r = nI b ∧ cq < cst (fun u => Pq (mu fst n i u)) b := by
      rcases h1 with ⟨p1, -⟩ | ⟨b, p1, p2, -, -⟩
      · exact Or.inl p1
      · refine Or.inr ⟨b, p1, p2, ?_⟩
        rcases Nat.lt_or_ge cq (cst (fun u => Pq (mu fst n i u)) b) with q | q
        · exact q
        · exact absurd ⟨b, p1, p2, q⟩ hb
    obtain ⟨q1, q2⟩ := h3 hnone
    obtain ⟨q1', q2'⟩ := h3' hnone
    exact ⟨fun q hq => (q2 q hq).trans (q2' q hq).symm, q1.trans q1'.symm⟩
theorem OFFER_un {n : Nat} {K F W : Nat → Nat} {cq : Nat} {law fst : Int32} {i : Nat} {Pq O O' : Nat → Nat} {B B' : Int32} (hK : K i ≤ 6) (h : OFFER n K F W cq law fst i Pq O B) (h' : OFFER n K F W cq law fst i Pq O' B') : (∀ q, q < 8 → O q = O' q) ∧ B = B' := by
  by_cases hb : K i = 0 ∨ K i = 1 ∨ K i = 2 ∨ K i = 5
  · exact BUYS_un (h.1 hb) (h'.1 hb)
  · have h3 : K i = 3 ∨ K i = 4 ∨ K i = 6 := by omega
    rcases h3 with e | e | e
    · exact ⟨fun q hq => ((h.2.1 e).2 q hq).trans ((h'.2.1 e).2 q hq).symm, (h.2.1 e).1.trans (h'.2.1 e).1.symm⟩
    · exact ⟨fun q hq => ((h.2.2.1 e).2 q hq).trans ((h'.2.2.1 e).2 q hq).symm, (h.2.2.1 e).1.trans (h'.2.2.1 e).1.symm⟩
    · exact ⟨fun q hq => ((h.2.2.2 e).2 q hq).trans ((h'.2.2.2 e).2 q hq).symm, (h.2.2.2 e).1.trans (h'.2.2.2 e).1.symm⟩
/-- what a class's arrays hold of man i's plan -/
def MAT (n : Nat) (pl : PLT) (ro rp rs : Nat → Nat) (g : Nat → Nat → Int32) (yf ef bf : Nat → Int32) (i : Nat) : Prop :=
  (∀ q, i < q → q < n → g (rp i) q = nI (zP pl i q)) ∧ (∀ q, q < 8 → g (ro i) q = nI (zO pl i q)) ∧ (∀ q, q < 8 → g (rs i) q = iI (zS pl i q)) ∧ yf i = zY pl i ∧ ef i = zE pl i ∧ bf i = zB pl i
/-- no row of this grid -/
def OFF (ro rp rs : Nat → Nat) (a : Nat) : Prop := ∀ q, q < 8 → a ≠ ro q ∧ a ≠ rp q ∧ a ≠ rs q
theorem zP_le {n : Nat} {K F W : Nat → Nat} {cq : Nat} {law tie fst : Int32} {pl : PLT} (h : PLAN n K F W cq law tie fst pl) (hF : ∀ j, j < n → F j ≤ 9) {i q : Nat} (h1 : i < q) (h2 : q < n) : zP pl i q ≤ 110 := by
  rw [(h i (by omega)).1.1 q h1 h2]
  refine pr_le (hF q h2) ?_
  by_cases e : i + 1 < n
  · exact ((h (i + 1) e).2.2 q).2
  · omega
theorem HW_of {n : Nat} {K F W : Nat → Nat} {cq : Nat} {kf ff wf stf : Nat → Int32} (h : EVH n K F W cq kf ff wf stf) : n ≤ 8 ∧ ∀ j, j < n → wf j = nI (W j) ∧ W j ≤ 9 := ⟨h.1, fun j hj => ⟨(h.2.2.2 j hj).2.2.1, (h.2.2.2 j hj).2.2.2.2⟩⟩
theorem HF_of {n : Nat} {K F W : Nat → Nat} {cq : Nat} {kf ff wf stf : Nat → Int32} (h : EVH n K F W cq kf ff wf stf) : ∀ j, j < n → F j ≤ 9 := fun j hj => (h.2.2.2 j hj).2.1.2
theorem of_fin {n : Nat} {K F W : Nat → Nat} {cq : Nat} {law tie fst : Int32} {pl : PLT} (h : PLAN n K F W cq law tie fst pl) {i : Nat} (hi : i < n) (hK : K i ≤ 6) {O : Nat → Nat} {B : Int32} {r2 : Nat → Int32} (hO : OFFER n K F W cq law fst i (zP pl i) O B) (hr : ∀ q, q < 8 → r2 q = nI (O q)) : (∀ q, q < 8 → r2 q = nI (zO pl i q)) ∧ B = zB pl i := by
  obtain ⟨h1, h2⟩ := OFFER_un hK hO (h i hi).1.2.1
  exact ⟨fun q hq => by rw [hr q hq, h1 q hq], h2⟩
theorem vt_fin {n : Nat} {K F W : Nat → Nat} {cq : Nat} {law tie fst : Int32} {pl : PLT} (h : PLAN n K F W cq law tie fst pl) {i : Nat} (hi : i < n) {y : Int32} (hy : ∀ b, b < 32 → bt y b = decide (b = i ∨ (i < b ∧ b < n ∧ zP pl i b ≤ zO pl i b))) : y = zY pl i :=
  b_ext (fun b hb => (hy b hb).trans ((h i hi).1.2.2.1 b hb).symm)
theorem en_fin {n : Nat} {K F W : Nat → Nat} {cq : Nat} {law tie fst : Int32} {pl : PLT} (h : PLAN n K F W cq law tie fst pl) {i : Nat} (hi : i < n) (hn : n ≤ 8) {E E1 Y : Int32} {r ro r1 : Nat → Int32} (hY : Y = zY pl i)
    (h1 : (n ≤ i + 1 ∨ nd law (sumr W i (n - i)) ≤ yw W Y i (n - i)) → E = nI i ∧ ∀ q, q < 8 → r q = ro q) (h2 : ¬ (n ≤ i + 1 ∨ nd law (sumr W i (n - i)) ≤ yw W Y i (n - i)) → E = E1 ∧ ∀ q, q < 8 → r q = if q = i then -1 else r1 q)
    (ho : ∀ q, q < 8 → ro q = nI (zO pl i q)) (hs : i + 1 < n → E1 = zE pl (i + 1) ∧ ∀ q, q < 8 → r1 q = iI (zS pl (i + 1) q)) : E = zE pl i ∧ ∀ q, q < 8 → r q = iI (zS pl i q) := by
  subst hY
  obtain ⟨-, -, -, c1, c2⟩ := (h i hi).1
  by_cases hc : n ≤ i + 1 ∨ nd law (sumr W i (n - i)) ≤ yw W (zY pl i) i (n - i)
  · obtain ⟨a1, a2⟩ := h1 hc
    obtain ⟨b1, b2⟩ := c1 hc
    exact ⟨a1.trans b1.symm, fun q hq => by rw [a2 q hq, ho q hq, b2 q hq, nI_iI]⟩
  · obtain ⟨a1, a2⟩ := h2 hc
    obtain ⟨b1, b2⟩ := c2 hc
    obtain ⟨s1, s2⟩ := hs (Nat.lt_of_not_le fun q => hc (Or.inl q))
    refine ⟨by rw [a1, s1, b1], fun q hq => ?_⟩
    rw [a2 q hq, b2 q hq]
    by_cases e : q = i
    · rw [if_pos e, if_pos e]; rfl
    · rw [if_neg e, if_neg e, s2 q hq]
