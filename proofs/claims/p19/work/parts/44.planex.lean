/-! there is a plan for every evening -/
theorem bits_ex (f : Nat → Bool) : ∀ k, k ≤ 32 → ∃ x : Int32, ∀ b, b < 32 → bt x b = (decide (b < k) && f b)
  | 0, _ => ⟨0, fun b _ => by rw [b_0]; simp⟩
  | k + 1, h => by
    obtain ⟨x, hx⟩ := bits_ex f k (by omega)
    have h1 : ∀ k, k < 32 → ∃ y : Int32, ∀ b, b < 32 → bt y b = decide (b = k) := by
      intro k hk
      exact ⟨(1 : Int32) <<< nI k, (by decide +kernel : ∀ k, k < 32 → ∀ b, b < 32 → bt ((1 : Int32) <<< nI k) b = decide (b = k)) k hk⟩
    obtain ⟨y, hy⟩ := h1 k (by omega)
    by_cases e : f k = true
    · refine ⟨x ||| y, fun b hb => ?_⟩
      rw [b_or, hx b hb, hy b hb]
      by_cases e2 : b = k
      · subst e2
        simp [e]
      · have : decide (b < k + 1) = decide (b < k) := decide_eq_decide.mpr ⟨fun q => by omega, fun q => by omega⟩
        rw [this, decide_eq_false e2, Bool.or_false]
    · refine ⟨x, fun b hb => ?_⟩
      rw [hx b hb]
      by_cases e2 : b = k
      · subst e2
        simp [e]
      · have : decide (b < k + 1) = decide (b < k) := decide_eq_decide.mpr ⟨fun q => by omega, fun q => by omega⟩
        rw [this]
theorem bit_ex (f : Nat → Bool) : ∃ x : Int32, ∀ b, b < 32 → bt x b = f b := by
  obtain ⟨x, hx⟩ := bits_ex f 32 (Nat.le_refl _)
  exact ⟨x, fun b hb => by rw [hx b hb, decide_eq_true hb, Bool.true_and]⟩
theorem BST_ex (EN : Nat → Prop) (ct : Nat → Nat) : ∀ x, ∃ bl, BST EN ct x bl
  | 0 => ⟨-9, BST_0⟩
  | x + 1 => by
    obtain ⟨bl, h⟩ := BST_ex EN ct x
    by_cases e : EN x
    · rcases h with ⟨h1, h2⟩ | ⟨b, h1, h2, h3, h4⟩
      · exact ⟨_, BST_first h2 e⟩
      · rcases Nat.lt_or_ge (ct b) (ct x) with q | q
        · exact ⟨_, BST_dear h1 h2 h3 h4 q⟩
        · exact ⟨_, BST_take h1 h4 e q⟩
    · exact ⟨bl, BST_no h e⟩
theorem offer_ex {n : Nat} {K F W : Nat → Nat} {cq : Nat} {law fst : Int32} {i : Nat} {Pq : Nat → Nat} (hi : i < n ∧ n ≤ 8) (hcq : cq ≤ 99) (hF : F i ≤ 9) (hK : K i ≤ 6) : ∃ (O : Nat → Nat) (B : Int32), (∀ q, O q ≤ 99) ∧ OFFER n K F W cq law fst i Pq O B := by
  by_cases hb : K i = 0 ∨ K i = 1 ∨ K i = 2 ∨ K i = 5
  · obtain ⟨rb, h1⟩ := BST_ex (ENf n W law fst i Pq) (cst (fun u => Pq (mu fst n i u))) (2 ^ (n - 1 - i))
    by_cases hc : ∃ b, b < 2 ^ (n - 1 - i) ∧ rb = nI b ∧ cst (fun u => Pq (mu fst n i u)) b ≤ cq
    · obtain ⟨b, hb1, hb2, hb3⟩ := hc
      have hp7 := p2_le (t := n - 1 - i) (by omega)
      obtain ⟨B, hB⟩ := bit_ex (fun q => mb fst n i b (n - 1 - i) q)
      obtain ⟨O, h3, h4, h5⟩ := of_buy (K := K) (F := F) (W := W) (law := law) (cq := cq) (B := B) (r2 := fun q => nI (if q = i then KO cq i i - cst (fun u => Pq (mu fst n i u)) b else if mb fst n i b (n - 1 - i) q = true then Pq q else KO cq i q)) (r1 := fun q => nI (KO cq i q)) hb hi hcq h1
        (fun b' p1 p2 p3 => by
          have e : b = b' := (nI_eq (by omega) (by omega)).mp (hb2.symm.trans p2)
          subst e
          exact ⟨hB, fun q _ => rfl⟩) (fun h => (bc_none (ct := cst (fun u => Pq (mu fst n i u))) (by omega) h hb1 hb2 hb3).elim) (fun q _ => rfl)
      exact ⟨O, B, h4, h5⟩
    · obtain ⟨O, h3, h4, h5⟩ := of_buy (K := K) (F := F) (W := W) (law := law) (cq := cq) (B := -9) (r2 := fun q => nI (KO cq i q)) (r1 := fun q => nI (KO cq i q)) hb hi hcq h1
        (fun b' p1 p2 p3 => absurd ⟨b', p1, p2, p3⟩ hc) (fun h => ⟨rfl, fun q _ => rfl⟩) (fun q _ => rfl)
      exact ⟨O, -9, h4, h5⟩
  · have h3 : K i = 3 ∨ K i = 4 ∨ K i = 6 := by omega
    rcases h3 with e | e | e
    · exact ⟨_, -9, of_3 e rfl hcq⟩
    · exact ⟨_, -9, of_4 e rfl hcq hF⟩
    · exact ⟨_, -9, of_6 e rfl hcq hF⟩
theorem stage_ex {n : Nat} {K F W : Nat → Nat} {cq : Nat} {law tie fst : Int32} {i : Nat} (hi : i < n ∧ n ≤ 8) (hcq : cq ≤ 99) (hF : F i ≤ 9) (hK : K i ≤ 6) (S1 : Nat → Int) (E1 : Int32) (hS : ∀ q, -1 ≤ S1 q ∧ S1 q ≤ 99) :
    ∃ Pq O B Y E S, STAGE n K F W cq law tie fst i S1 E1 Pq O B Y E S ∧ (∀ q, O q ≤ 99) ∧ ∀ q, -1 ≤ S q ∧ S q ≤ 99 := by
  obtain ⟨O, B, h1, h2⟩ := offer_ex (K := K) (F := F) (W := W) (law := law) (fst := fst) (Pq := fun q => pr (K q) (F q) tie (S1 q)) hi hcq hF hK
  obtain ⟨Y, hY⟩ := bit_ex (fun b => decide (b = i ∨ (i < b ∧ b < n ∧ pr (K b) (F b) tie (S1 b) ≤ O b)))
  by_cases hc : CNDs n W law i Y
  · exact ⟨_, O, B, Y, nI i, fun q => O q, ⟨fun q _ _ => rfl, h2, hY, fun _ => ⟨rfl, fun q _ => rfl⟩, fun h => absurd hc h⟩, h1, fun q => by have := h1 q; dsimp only; omega⟩
  · refine ⟨_, O, B, Y, E1, fun q => if q = i then -1 else S1 q, ⟨fun q _ _ => rfl, h2, hY, fun h => absurd h hc, fun _ => ⟨rfl, fun q _ => rfl⟩⟩, h1, fun q => ?_⟩
    have := hS q
    dsimp only
    split <;> omega
theorem plan_ex {n : Nat} {K F W : Nat → Nat} {cq : Nat} {law tie fst : Int32} (hn : n ≤ 8) (hcq : cq ≤ 99) (hF : ∀ j, j < n → F j ≤ 9) (hK : ∀ j, j < n → K j ≤ 6) : ∃ pl, PLAN n K F W cq law tie fst pl := by
  have key : ∀ k, k ≤ n → ∃ pl : PLT, (∀ i, n - k ≤ i → i < n → STAGE n K F W cq law tie fst i (zS pl (i + 1)) (zE pl (i + 1)) (zP pl i) (zO pl i) (zB pl i) (zY pl i) (zE pl i) (zS pl i) ∧ (∀ q, zO pl i q ≤ 99) ∧ ∀ q, -1 ≤ zS pl i q ∧ zS pl i q ≤ 99) ∧ ∀ q, -1 ≤ zS pl (n - k) q ∧ zS pl (n - k) q ≤ 99 := by
    intro k
    induction k with
    | zero => exact fun _ => ⟨(fun _ _ => 0, fun _ _ => 0, fun _ => 0, fun _ => 0, fun _ => 0, fun _ _ => 0), fun i h1 h2 => by omega, fun q => by show (-1 : Int) ≤ 0 ∧ (0 : Int) ≤ 99; omega⟩
    | succ k ih =>
      intro hk
      obtain ⟨pl, h1, h2⟩ := ih (by omega)
      obtain ⟨i, hi⟩ : ∃ i, i = n - (k + 1) := ⟨_, rfl⟩
      have hik : i + 1 = n - k := by omega
      rw [← hik] at h2
      obtain ⟨Pq, O, B, Y, E, S, q1, q2, q3⟩ := stage_ex (n := n) (K := K) (F := F) (W := W) (law := law) (tie := tie) (fst := fst) (i := i) ⟨by omega, hn⟩ hcq (hF i (by omega)) (hK i (by omega)) (zS pl (i + 1)) (zE pl (i + 1)) h2
      refine ⟨(fun j => if j = i then Pq else zP pl j, fun j => if j = i then O else zO pl j, fun j => if j = i then B else zB pl j, fun j => if j = i then Y else zY pl j, fun j => if j = i then E else zE pl j, fun j => if j = i then S else zS pl j), fun j hj1 hj2 => ?_, fun q => ?_⟩
      · show STAGE n K F W cq law tie fst j (if j + 1 = i then S else zS pl (j + 1)) (if j + 1 = i then E else zE pl (j + 1)) (if j = i then Pq else zP pl j) (if j = i then O else zO pl j) (if j = i then B else zB pl j) (if j = i then Y else zY pl j) (if j = i then E else zE pl j) (if j = i then S else zS pl j) ∧ (∀ q, (if j = i then O else zO pl j) q ≤ 99) ∧ ∀ q, -1 ≤ (if j = i then S else zS pl j) q ∧ (if j = i then S else zS pl j) q ≤ 99
        rw [if_neg (by omega : ¬ j + 1 = i), if_neg (by omega : ¬ j + 1 = i)]
        by_cases e : j = i
        · subst e
          simp only [if_true]
          exact ⟨q1, q2, q3⟩
        · simp only [if_neg e]
          exact h1 j (by omega) hj2
      · show -1 ≤ (if n - (k + 1) = i then S else zS pl (n - (k + 1))) q ∧ (if n - (k + 1) = i then S else zS pl (n - (k + 1))) q ≤ 99
        rw [if_pos hi.symm]
        exact q3 q
  obtain ⟨pl, h, -⟩ := key n (Nat.le_refl n)
  exact ⟨pl, fun i hi => h i (by omega) hi⟩
