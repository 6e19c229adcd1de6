def KO (cq i : Nat) : Nat → Nat := fun q => if q = i then cq else 0
theorem KO_le {cq i : Nat} (h : cq ≤ 99) : ∀ q, KO cq i q ≤ 99 := by
  intro q
  unfold KO
  split <;> omega
theorem sumr_mem {f : Nat → Nat} {a t : Nat} : ∀ {k : Nat}, a ≤ t → t < a + k → f t ≤ sumr f a k
  | 0, h1, h2 => by omega
  | k + 1, h1, h2 => by
    show f t ≤ sumr f a k + f (a + k)
    by_cases e : t = a + k
    · rw [e]; omega
    · have := sumr_mem (f := f) (a := a) (t := t) (k := k) h1 (by omega)
      omega
theorem mb_ex {fst : Int32} {n i b y q : Nat} (h : mb fst n i b y q = true) : ∃ u, u < y ∧ b.testBit u = true ∧ mu fst n i u = q := by
  induction y with
  | zero => exact absurd h Bool.false_ne_true
  | succ y ih =>
    rw [mb_s, Bool.or_eq_true] at h
    rcases h with h | h
    · obtain ⟨u, h1, h2⟩ := ih h
      exact ⟨u, by omega, h2⟩
    · rw [Bool.and_eq_true] at h
      exact ⟨y, by omega, h.1, of_decide_eq_true h.2⟩
/-- the sets of units with which it is carried -/
def ENf (n : Nat) (W : Nat → Nat) (law fst : Int32) (i : Nat) (Pq : Nat → Nat) : Nat → Prop := fun z => nd law (sumr W i (n - i)) ≤ W i + sumr (frf fst n i Pq W) 0 (n - 1 - i) + cst (uwf fst n i Pq W) z
/-- what a man who buys offers -/
def BUYS (n : Nat) (W : Nat → Nat) (cq : Nat) (law fst : Int32) (i : Nat) (Pq O : Nat → Nat) (B : Int32) : Prop := ∃ rb : Int32, BST (ENf n W law fst i Pq) (cst (fun u => Pq (mu fst n i u))) (2 ^ (n - 1 - i)) rb ∧
  (∀ b, b < 2 ^ (n - 1 - i) → rb = nI b → cst (fun u => Pq (mu fst n i u)) b ≤ cq → (∀ q, q < 32 → bt B q = mb fst n i b (n - 1 - i) q) ∧ ∀ q, q < 8 → O q = if q = i then cq - cst (fun u => Pq (mu fst n i u)) b else if mb fst n i b (n - 1 - i) q = true then Pq q else 0) ∧
  ((rb = -9 ∨ ∃ b, b < 2 ^ (n - 1 - i) ∧ rb = nI b ∧ cq < cst (fun u => Pq (mu fst n i u)) b) → B = -9 ∧ ∀ q, q < 8 → O q = KO cq i q)
def OFFER (n : Nat) (K F W : Nat → Nat) (cq : Nat) (law fst : Int32) (i : Nat) (Pq O : Nat → Nat) (B : Int32) : Prop :=
  ((K i = 0 ∨ K i = 1 ∨ K i = 2 ∨ K i = 5) → BUYS n W cq law fst i Pq O B) ∧
  (K i = 3 → B = -9 ∧ ∀ q, q < 8 → O q = sE (KO cq i) i (cq / (n - i)) (n - 1 - i) q) ∧
  (K i = 4 → B = -9 ∧ ∀ q, q < 8 → O q = sE (KO cq i) i (F i) (n - 1 - i) q) ∧
  (K i = 6 → B = -9 ∧ ∀ q, q < 8 → O q = sY (KO cq i) n i (F i) (n - 1 - i) q)
def CNDs (n : Nat) (W : Nat → Nat) (law : Int32) (i : Nat) (Y : Int32) : Prop := n ≤ i + 1 ∨ nd law (sumr W i (n - i)) ≤ yw W Y i (n - i)
/-- man i's plan, out of the plan of the next one -/
def STAGE (n : Nat) (K F W : Nat → Nat) (cq : Nat) (law tie fst : Int32) (i : Nat) (S1 : Nat → Int) (E1 : Int32) (Pq O : Nat → Nat) (B Y E : Int32) (S : Nat → Int) : Prop :=
  (∀ q, i < q → q < n → Pq q = pr (K q) (F q) tie (S1 q)) ∧ OFFER n K F W cq law fst i Pq O B ∧ (∀ b, b < 32 → bt Y b = decide (b = i ∨ (i < b ∧ b < n ∧ Pq b ≤ O b))) ∧
  (CNDs n W law i Y → E = nI i ∧ ∀ q, q < 8 → S q = (O q : Int)) ∧ (¬ CNDs n W law i Y → E = E1 ∧ ∀ q, q < 8 → S q = if q = i then -1 else S1 q)
theorem of_buy {n : Nat} {K F W : Nat → Nat} {cq : Nat} {law fst : Int32} {i : Nat} {Pq : Nat → Nat} {B rb : Int32} {r2 r1 : Nat → Int32} (hK : K i = 0 ∨ K i = 1 ∨ K i = 2 ∨ K i = 5) (hi : i < n ∧ n ≤ 8) (hcq : cq ≤ 99) (h1 : BST (ENf n W law fst i Pq) (cst (fun u => Pq (mu fst n i u))) (2 ^ (n - 1 - i)) rb)
    (h2 : ∀ b, b < 2 ^ (n - 1 - i) → rb = nI b → cst (fun u => Pq (mu fst n i u)) b ≤ cq → (∀ q, q < 32 → bt B q = mb fst n i b (n - 1 - i) q) ∧ ∀ q, q < 8 → r2 q = nI (if q = i then KO cq i i - cst (fun u => Pq (mu fst n i u)) b else if mb fst n i b (n - 1 - i) q = true then Pq q else KO cq i q))
    (h3 : (rb = -9 ∨ ∃ b, b < 2 ^ (n - 1 - i) ∧ rb = nI b ∧ cq < cst (fun u => Pq (mu fst n i u)) b) → B = -9 ∧ ∀ q, q < 8 → r2 q = r1 q) (hr1 : ∀ q, q < 8 → r1 q = nI (KO cq i q)) :
    ∃ O : Nat → Nat, (∀ q, q < 8 → r2 q = nI (O q)) ∧ (∀ q, O q ≤ 99) ∧ OFFER n K F W cq law fst i Pq O B := by
  have hp7 := p2_le (t := n - 1 - i) (by omega)
  have hoff : ∀ O, BUYS n W cq law fst i Pq O B → OFFER n K F W cq law fst i Pq O B := fun O h => ⟨fun _ => h, fun q => by omega, fun q => by omega, fun q => by omega⟩
  by_cases hb : ∃ b, b < 2 ^ (n - 1 - i) ∧ rb = nI b ∧ cst (fun u => Pq (mu fst n i u)) b ≤ cq
  · obtain ⟨b, hb1, hb2, hb3⟩ := hb
    obtain ⟨q1, q2⟩ := h2 b hb1 hb2 hb3
    refine ⟨fun q => if q = i then cq - cst (fun u => Pq (mu fst n i u)) b else if mb fst n i b (n - 1 - i) q = true then Pq q else 0, fun q hq => ?_, fun q => ?_, hoff _ ⟨rb, h1, fun b' p1 p2 p3 => ?_, fun h => ?_⟩⟩
    · rw [q2 q hq]
      unfold KO
      dsimp only
      by_cases e : q = i
      · simp only [if_pos e, if_true]
      · simp only [if_neg e]
    · dsimp only
      split
      · omega
      · split
        · rename_i hm
          obtain ⟨u, p1, p2, p3⟩ := mb_ex hm
          have := sumr_mem (f := fun u => if b.testBit u = true then Pq (mu fst n i u) else 0) (a := 0) (t := u) (k := 7) (by omega) (by omega)
          rw [if_pos p2, p3] at this
          exact Nat.le_trans this (Nat.le_trans hb3 hcq)
        · omega
    · have e : b = b' := (nI_eq (by omega) (by omega)).mp (hb2.symm.trans p2)
      subst e
      exact ⟨q1, fun q _ => rfl⟩
    · exact (bc_none (ct := cst (fun u => Pq (mu fst n i u))) (by omega) h hb1 hb2 hb3).elim
  · have hnone : rb = -9 ∨ ∃ b, b < 2 ^ (n - 1 - i) ∧ rb = nI b ∧ cq < cst (fun u => Pq (mu fst n i u)) b := by
      rcases h1 with ⟨p1, -⟩ | ⟨b, p1, p2, -, -⟩
      · exact Or.inl p1
      · refine Or.inr ⟨b, p1, p2, ?_⟩
        rcases Nat.lt_or_ge cq (cst (fun u => Pq (mu fst n i u)) b) with q | q
        · exact q
        · exact absurd ⟨b, p1, p2, q⟩ hb
    obtain ⟨q1, q2⟩ := h3 hnone
    refine ⟨KO cq i, fun q hq => (q2 q hq).trans (hr1 q hq), KO_le hcq, hoff _ ⟨rb, h1, fun b p1 p2 p3 => absurd ⟨b, p1, p2, p3⟩ hb, fun _ => ⟨q1, fun q _ => rfl⟩⟩⟩
theorem of_3 {n : Nat} {K F W : Nat → Nat} {cq : Nat} {law fst : Int32} {i : Nat} {Pq : Nat → Nat} {B : Int32} (hK : K i = 3) (hB : B = -9) (hcq : cq ≤ 99) : (∀ q, sE (KO cq i) i (cq / (n - i)) (n - 1 - i) q ≤ 99) ∧ OFFER n K F W cq law fst i Pq (sE (KO cq i) i (cq / (n - i)) (n - 1 - i)) B :=
  ⟨sE_le (Nat.le_trans (Nat.div_le_self _ _) hcq) (KO_le hcq) _, fun q => by omega, fun _ => ⟨hB, fun q _ => rfl⟩, fun q => by omega, fun q => by omega⟩
theorem of_4 {n : Nat} {K F W : Nat → Nat} {cq : Nat} {law fst : Int32} {i : Nat} {Pq : Nat → Nat} {B : Int32} (hK : K i = 4) (hB : B = -9) (hcq : cq ≤ 99) (hF : F i ≤ 9) : (∀ q, sE (KO cq i) i (F i) (n - 1 - i) q ≤ 99) ∧ OFFER n K F W cq law fst i Pq (sE (KO cq i) i (F i) (n - 1 - i)) B :=
  ⟨sE_le (by omega) (KO_le hcq) _, fun q => by omega, fun q => by omega, fun _ => ⟨hB, fun q _ => rfl⟩, fun q => by omega⟩
theorem of_6 {n : Nat} {K F W : Nat → Nat} {cq : Nat} {law fst : Int32} {i : Nat} {Pq : Nat → Nat} {B : Int32} (hK : K i = 6) (hB : B = -9) (hcq : cq ≤ 99) (hF : F i ≤ 9) : (∀ q, sY (KO cq i) n i (F i) (n - 1 - i) q ≤ 99) ∧ OFFER n K F W cq law fst i Pq (sY (KO cq i) n i (F i) (n - 1 - i)) B :=
  ⟨sY_le (by omega) (KO_le hcq) _, fun q => by omega, fun q => by omega, fun q => by omega, fun _ => ⟨hB, fun q _ => rfl⟩⟩
