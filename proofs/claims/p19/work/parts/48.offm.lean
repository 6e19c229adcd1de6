/-! what the reference offers -/
/-- the row of an offer behind the men before m -/
def BO (cq i : Nat) (Pq : Nat → Nat) (s m : Nat) : Nat → Nat := fun q => if q = i then cq - sumr (fun q => if s.testBit q = true then Pq q else 0) (i + 1) (m - (i + 1)) else if i < q ∧ q < m ∧ s.testBit q = true then Pq q else 0
theorem BO_0 {cq i : Nat} {Pq : Nat → Nat} {s : Nat} : BO cq i Pq s (i + 1) = KO cq i := by
  funext q
  unfold BO KO
  rw [Nat.sub_self]
  by_cases e : q = i
  · rw [if_pos e, if_pos e]; rfl
  · rw [if_neg e, if_neg e, if_neg (by omega)]
theorem BO_n {cq i : Nat} {Pq : Nat → Nat} {s m : Nat} (hm : i < m) (h : s.testBit m = false) : BO cq i Pq s (m + 1) = BO cq i Pq s m := by
  funext q
  unfold BO
  rw [sumr_suc (f := fun q => if s.testBit q = true then Pq q else 0) (a := i + 1) (j := m) hm]
  by_cases e : q = i
  · rw [if_pos e, if_pos e, h]; rfl
  · rw [if_neg e, if_neg e]
    by_cases e2 : q = m
    · subst e2
      rw [h, if_neg (by simp), if_neg (by simp)]
    · by_cases e3 : i < q ∧ q < m ∧ s.testBit q = true
      · rw [if_pos e3, if_pos ⟨e3.1, by omega, e3.2.2⟩]
      · rw [if_neg e3, if_neg (fun z => e3 ⟨z.1, by omega, z.2.2⟩)]
theorem BO_y {cq i : Nat} {Pq : Nat → Nat} {s m q : Nat} (hm : i < m) (h : s.testBit m = true) : BO cq i Pq s (m + 1) q = if q = i then BO cq i Pq s m i - Pq m else if q = m then Pq m else BO cq i Pq s m q := by
  unfold BO
  rw [sumr_suc (f := fun q => if s.testBit q = true then Pq q else 0) (a := i + 1) (j := m) hm]
  by_cases e : q = i
  · rw [if_pos e, if_pos e, if_pos rfl, h, if_pos rfl]; omega
  · rw [if_neg e, if_neg e]
    by_cases e2 : q = m
    · subst e2
      rw [if_pos rfl, if_pos ⟨hm, by omega, h⟩]
    · rw [if_neg e2, if_neg e]
      by_cases e3 : i < q ∧ q < m ∧ s.testBit q = true
      · rw [if_pos e3, if_pos ⟨e3.1, by omega, e3.2.2⟩]
      · rw [if_neg e3, if_neg (fun z => e3 ⟨z.1, by omega, z.2.2⟩)]
theorem BO_le {cq i n : Nat} {Pq : Nat → Nat} {s m : Nat} (hm : i < m ∧ m < n) (h : s.testBit m = true) (hc : cstm Pq n i s ≤ cq) : Pq m ≤ BO cq i Pq s m i := by
  unfold BO
  rw [if_pos rfl]
  have h1 := sumr_suc (f := fun q => if s.testBit q = true then Pq q else 0) (a := i + 1) (j := m) hm.1
  have h2 := sumr_split (f := fun q => if s.testBit q = true then Pq q else 0) (a := i + 1) (k := m + 1 - (i + 1)) (d := n - (m + 1))
  rw [show m + 1 - (i + 1) + (n - (m + 1)) = n - 1 - i by omega] at h2
  rw [h, if_pos rfl] at h1
  unfold cstm at hc
  omega
theorem BO_fin {n : Nat} {W : Nat → Nat} {cq : Nat} {law fst : Int32} {i : Nat} {Pq : Nat → Nat} {s : Nat} {B : Int32} (hi : i < n) (hn : n ≤ 8) (hs : s < 2 ^ n) (hB : B = nI s) (hb : BND n i s) (h1 : BST (ENf n W law fst i Pq) (cst (fun u => Pq (mu fst n i u))) (2 ^ (n - 1 - i)) (nI (us fst n i s))) (hc : cstm Pq n i s ≤ cq) : BUYS n W cq law fst i Pq (BO cq i Pq s n) B := by
  have h8 := p28 hn
  have hp7 := p2_le (t := n - 1 - i) (by omega)
  have hul := us_lt (fst := fst) (n := n) (i := i) (s := s)
  refine ⟨_, h1, fun b p1 p2 p3 => ?_, fun h => ?_⟩
  · have e : us fst n i s = b := (nI_eq (by omega) (by omega)).mp p2
    subst e
    refine ⟨fun q hq => ?_, fun q hq => ?_⟩
    · rw [mb_us hi hb, hB]
      by_cases h31 : q < 31
      · exact b_get (by omega) h31
      · have h32 : q = 31 := by omega
        subst h32
        rw [Nat.testBit_lt_two_pow (by omega)]
        unfold bt nI
        show (BitVec.ofNat 32 s).getLsbD 31 = _
        rw [BitVec.getLsbD_ofNat, Nat.testBit_lt_two_pow (by omega)]
        simp
    · rw [mb_us hi hb, cst_us hi hn]
      unfold BO
      by_cases e : q = i
      · rw [if_pos e, if_pos e]
        unfold cstm
        rw [show n - (i + 1) = n - 1 - i by omega]
      · rw [if_neg e, if_neg e]
        by_cases e2 : s.testBit q = true
        · rw [if_pos e2, if_pos ⟨(hb q e2).1, (hb q e2).2, e2⟩]
        · rw [if_neg e2, if_neg (fun z => e2 z.2.2)]
  · rw [← cst_us (fst := fst) hi hn] at hc
    exact (bc_none (ct := cst (fun u => Pq (mu fst n i u))) (by omega) h us_lt rfl hc).elim
theorem BO_none {n : Nat} {W : Nat → Nat} {cq : Nat} {law fst : Int32} {i : Nat} {Pq : Nat → Nat} {rb : Int32} (hi : i < n) (hn : n ≤ 8) (h1 : BST (ENf n W law fst i Pq) (cst (fun u => Pq (mu fst n i u))) (2 ^ (n - 1 - i)) rb) (h : rb = -9 ∨ ∃ b, b < 2 ^ (n - 1 - i) ∧ rb = nI b ∧ cq < cst (fun u => Pq (mu fst n i u)) b) : BUYS n W cq law fst i Pq (KO cq i) (-9) := by
  have hp7 := p2_le (t := n - 1 - i) (by omega)
  exact ⟨rb, h1, fun b p1 p2 p3 => (bc_none (ct := cst (fun u => Pq (mu fst n i u))) (by omega) h p1 p2 p3).elim, fun _ => ⟨rfl, fun q _ => rfl⟩⟩
/-- a fair man always can -/
theorem sE_i {cq i c : Nat} : ∀ k, k * c ≤ cq → sE (KO cq i) i c k i = cq - k * c
  | 0, _ => by show KO cq i i = _; unfold KO; rw [if_pos rfl]; omega
  | k + 1, h => by
    have e : (k + 1) * c = k * c + c := Nat.succ_mul k c
    have ih := sE_i (cq := cq) (i := i) (c := c) k (by omega)
    show gv (sE (KO cq i) i c k) i (i + 1 + k) c i = _
    unfold gv
    rw [ih, if_pos (by omega), if_neg (by omega), if_pos rfl]
    omega
theorem fair_le {cq i n k : Nat} (hk : k < n - i) : k * (cq / (n - i)) + cq / (n - i) ≤ cq := by
  have h1 : (k + 1) * (cq / (n - i)) ≤ (n - i) * (cq / (n - i)) := Nat.mul_le_mul_right _ hk
  have h2 := Nat.mul_div_le cq (n - i)
  rw [Nat.succ_mul] at h1
  omega
theorem sE_stay {O : Nat → Nat} {i c : Nat} (k : Nat) (h : ¬ c ≤ sE O i c k i) : ∀ d, sE O i c (k + d) = sE O i c k
  | 0 => rfl
  | d + 1 => by
    show gv (sE O i c (k + d)) i (i + 1 + (k + d)) c = _
    rw [sE_stay k h d]
    funext q
    unfold gv
    rw [if_neg h]
theorem sY_stay {O : Nat → Nat} {n i c : Nat} (k : Nat) (h : ¬ c ≤ sY O n i c k i) : ∀ d, sY O n i c (k + d) = sY O n i c k
  | 0 => rfl
  | d + 1 => by
    show gv (sY O n i c (k + d)) i (n - 1 - (k + d)) c = _
    rw [sY_stay k h d]
    funext q
    unfold gv
    rw [if_neg h]
theorem or_fin {n : Nat} {K F W : Nat → Nat} {cq : Nat} {law tie fst : Int32} {pl : PLT} (h : PLAN n K F W cq law tie fst pl) {i : Nat} (hi : i < n) (hn : n ≤ 8) (hK : K i ≤ 6) {O : Nat → Nat} {B : Int32} {f : Nat → Int32} (hO : OFFER n K F W cq law fst i (zP pl i) O B) (hr : ∀ q, q < n → f (9 * i + q) = nI (O q)) : (∀ q, q < n → f (9 * i + q) = nI (zO pl i q)) ∧ B = zB pl i := by
  obtain ⟨h1, h2⟩ := OFFER_un hK hO (h i hi).1.2.1
  exact ⟨fun q hq => by rw [hr q hq, h1 q (by omega)], h2⟩
theorem of_by {n : Nat} {K F W : Nat → Nat} {cq : Nat} {law fst : Int32} {i : Nat} {Pq O : Nat → Nat} {B : Int32} (hK : K i = 0 ∨ K i = 1 ∨ K i = 2 ∨ K i = 5) (h : BUYS n W cq law fst i Pq O B) : OFFER n K F W cq law fst i Pq O B := ⟨fun _ => h, fun q => by omega, fun q => by omega, fun q => by omega⟩
