theorem BO_z {cq i : Nat} {Pq : Nat → Nat} {m : Nat} : BO cq i Pq 0 m = KO cq i := by
  funext q
  unfold BO KO
  rw [sumr_zero (fun j _ _ => by simp)]
  simp
theorem by_split {n : Nat} {W : Nat → Nat} {cq : Nat} {law fst : Int32} {i : Nat} {Pq : Nat → Nat} {r : Int32} (hi : i < n) (hn : n ≤ 8) (h : BYR n W cq law fst i Pq r) : ∃ s, BUYS n W cq law fst i Pq (BO cq i Pq s n) r ∧ ((r = -9 ∧ s = 0) ∨ (r = nI s ∧ s < 2 ^ n ∧ BND n i s ∧ cstm Pq n i s ≤ cq)) := by
  rcases h with ⟨h1, rb, h2, h3⟩ | ⟨s, h1, h2, h3, h4, h5⟩
  · refine ⟨0, ?_, Or.inl ⟨h1, rfl⟩⟩
    rw [BO_z, h1]
    exact BO_none hi hn h2 h3
  · exact ⟨s, BO_fin hi hn h1 h2 h3 h4 h5, Or.inr ⟨h2, h1, h3, h5⟩⟩
theorem BO_9 {cq i : Nat} {Pq : Nat → Nat} {s m : Nat} (hc : cq ≤ 99) : BO cq i Pq s m i ≤ 99 := by
  unfold BO
  rw [if_pos rfl]
  omega
theorem oe_row {n i j v a : Nat} {f f2 : Nat → Int32} {O O2 : Nat → Nat} (hij : i < j ∧ j < n ∧ n ≤ 8) (hf : f2 = upd (upd f (9 * i + j) (nI v)) (9 * i + i) (nI (a - v))) (ha : O i = a) (hO : ∀ q, q < n → f (9 * i + q) = nI (O q)) (h2 : ∀ q, q < n → O2 q = if q = i then O i - v else if q = j then v else O q) : ∀ q, q < n → f2 (9 * i + q) = nI (O2 q) := by
  intro q hq
  rw [hf, h2 q hq]
  by_cases e : q = i
  · rw [e, if_pos rfl, pk_us, ha]
  · rw [if_neg e, pk_un (by omega)]
    by_cases e2 : q = j
    · rw [e2, if_pos rfl, pk_us]
    · rw [if_neg e2, pk_un (by omega)]; exact hO q hq
theorem oe_fr {i j v a : Nat} {f f2 g : Nat → Int32} (hij : i < 9 ∧ j < 9) (hf : f2 = upd (upd f (9 * i + j) (nI v)) (9 * i + i) (nI (a - v))) (h : ∀ k, k < 9 * i ∨ 9 * i + 9 ≤ k → f k = g k) : ∀ k, k < 9 * i ∨ 9 * i + 9 ≤ k → f2 k = g k := by
  intro k hk
  rw [hf, pk_un (by omega), pk_un (by omega)]
  exact h k hk
