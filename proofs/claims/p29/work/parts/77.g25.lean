theorem cv_suc {Q : Nat → Nat} {a k v : Nat} : cv Q a (k + 1) v = cv Q a k v + (if Q (a + k) = v then 1 else 0) := by
  show cn _ a k + (if decide (Q (a + k) = v) = true then 1 else 0) = _
  by_cases h : Q (a + k) = v
  · rw [if_pos (decide_eq_true h), if_pos h]; rfl
  · rw [if_neg (by simpa using h), if_neg h]; rfl
theorem rk_cv {Q : Nat → Nat} {a k v : Nat} (h : Q (a + k) = v) : rk Q a (a + k) = cv Q a k v := by
  unfold rk cv
  rw [show a + k - a = k by omega, h]
theorem cv_mono {Q : Nat → Nat} {a v k l : Nat} (h : k ≤ l) : cv Q a k v ≤ cv Q a l v := by
  rw [show l = k + (l - k) by omega]
  exact cn_mono
/-- a next level is there -/
theorem lv_ex {Q : Nat → Nat} {a y m v : Nat} (h1 : m ≤ cu Q a y 100) (h2 : cu Q a y v < m) : ∃ q, a ≤ q ∧ q < a + y ∧ v < Q q := by
  have key : ∀ d, cu Q a y (v + d) = cu Q a y v ∨ ∃ q, a ≤ q ∧ q < a + y ∧ v < Q q := by
    intro d
    induction d with
    | zero => exact Or.inl rfl
    | succ d ih =>
      rcases ih with ih | ih
      · rcases Nat.eq_zero_or_pos (cv Q a y (v + d + 1)) with q | q
        · left
          show cu Q a y (v + d) + cv Q a y (v + d + 1) = _
          rw [ih, q]
          rfl
        · obtain ⟨j, q1, q2, q3⟩ := cn_ex q
          have q4 : Q j = v + d + 1 := by simpa using q3
          exact Or.inr ⟨j, q1, q2, by omega⟩
      · exact Or.inr ih
  by_cases hv : v ≤ 100
  · rcases key (100 - v) with q | q
    · rw [show v + (100 - v) = 100 by omega] at q
      omega
    · exact q
  · have := cu_mono (Q := Q) (a := a) (y := y) (v := 100) (d := v - 100)
    rw [show 100 + (v - 100) = v by omega] at this
    omega
/-- the step from a level to the next one that is there -/
theorem by_step {Q : Nat → Nat} {a y m v w : Nat} (hvw : v < w) (hg : ∀ j, a ≤ j → j < a + y → v < Q j → w ≤ Q j) : cu Q a y w = cu Q a y v + cv Q a y w ∧ co Q a y m w = co Q a y m v + w * min (cv Q a y w) (m - cu Q a y v) ∧ ∀ u, v ≤ u → u < w → cu Q a y u = cu Q a y v ∧ co Q a y m u = co Q a y m v := by
  have hgap : ∀ u, v ≤ u → u < w → cu Q a y u = cu Q a y v ∧ co Q a y m u = co Q a y m v := fun u h1 h2 => by
    have := gap (Q := Q) (a := a) (y := y) (m := m) (v := v) (d := u - v) (fun j q1 q2 q3 => by have := hg j q1 q2 q3; omega)
    rw [show v + (u - v) = u by omega] at this
    exact this
  obtain ⟨x, hx⟩ : ∃ x, w = x + 1 := ⟨w - 1, by omega⟩
  subst hx
  obtain ⟨h1, h2⟩ := hgap x (by omega) (by omega)
  refine ⟨?_, ?_, hgap⟩
  · show cu Q a y x + cv Q a y (x + 1) = _
    rw [h1]
  · show co Q a y m x + (x + 1) * min (cv Q a y (x + 1)) (m - cu Q a y x) = _
    rw [h1, h2]
theorem OF_0 {Q : Nat → Nat} {a y m j : Nat} : OF Q a y m 0 j = 0 := by
  unfold OF
  rw [if_neg (fun q => by omega)]
theorem min_nI {x y : Nat} (hx : x < 2 ^ 31) (hy : y < 2 ^ 31) : (if nI y < nI x then nI y else nI x) = nI (min x y) := by
  by_cases h : y < x
  · rw [if_pos (nI_lt h hx), Nat.min_eq_right (by omega)]
  · rw [if_neg (fun q => h ((nI_ltI hy hx).mp q)), Nat.min_eq_left (by omega)]
theorem cv_le {Q : Nat → Nat} {a y v : Nat} : cv Q a y v ≤ y := cn_le
theorem mul_le_60 {w t : Nat} (hw : w ≤ 1000) (ht : t ≤ 60) : w * t ≤ 60000 := by
  have := Nat.mul_le_mul hw ht
  omega
/-- what a man is offered at the last level v -/
theorem OF_case {Q : Nat → Nat} {a y m v j : Nat} (h1 : a ≤ j) (h2 : j < a + y) (hst : ∀ u, u < v → cu Q a y u < m) :
    OF Q a y m v j = if 0 < Q j ∧ Q j < v then Q j else if Q j = v ∧ 0 < v ∧ cv Q a (j - a) v < m - cu Q a y (v - 1) then v else 0 := by
  unfold OF
  by_cases e1 : 0 < Q j ∧ Q j < v
  · rw [if_pos e1, if_pos ⟨h1, h2, e1.1, by omega, rk_all h1 h2 e1.1 (hst (Q j) e1.2)⟩]
  · rw [if_neg e1]
    by_cases e2 : Q j = v ∧ 0 < v
    · have hr : rk Q a j = cv Q a (j - a) v := by
        unfold rk cv
        rw [e2.1]
      by_cases e3 : cv Q a (j - a) v < m - cu Q a y (v - 1)
      · rw [if_pos ⟨h1, h2, by omega, by omega, by rw [hr, e2.1]; exact e3⟩, if_pos ⟨e2.1, e2.2, e3⟩, e2.1]
      · rw [if_neg (fun q => e3 (by have := q.2.2.2.2; rw [hr, e2.1] at this; exact this)), if_neg (fun q => e3 q.2.2)]
    · rw [if_neg (fun q => by
        by_cases e4 : Q j = v
        · exact e2 ⟨e4, by omega⟩
        · exact e1 ⟨q.2.2.1, by omega⟩), if_neg (fun q => e2 ⟨q.1, q.2.1⟩)]
theorem cv_at {Q : Nat → Nat} {a j v : Nat} (h : a ≤ j) : cv Q a (j + 1 - a) v = cv Q a (j - a) v + (if Q j = v then 1 else 0) := by
  rw [show j + 1 - a = (j - a) + 1 by omega, cv_suc, show a + (j - a) = j by omega]
theorem cu_pred {Q : Nat → Nat} {a y p : Nat} (h : 1 ≤ p) : cu Q a y p = cu Q a y (p - 1) + cv Q a y p := by
  obtain ⟨x, rfl⟩ : ∃ x, p = x + 1 := ⟨p - 1, by omega⟩
  rfl
theorem cu_le {Q : Nat → Nat} {a y : Nat} : ∀ {v : Nat}, cu Q a y v ≤ y
  | 0 => Nat.zero_le _
  | v + 1 => by
    have h1 := cu_sum (Q := Q) (a := a) (y := y) (v := v + 1)
    have h2 := cn_le (p := fun j => decide (Q j ≤ v + 1)) (a := a) (k := y)
    omega
/-- whom one buys first: the places from the other end -/
def mr (fs : Int32) (a y q : Nat) : Nat := if fs = 0 then q else 2 * a + y - 1 - q
def Qm (fs : Int32) (a y : Nat) (Q : Nat → Nat) (q : Nat) : Nat := Q (mr fs a y q)
theorem mr_in {fs : Int32} {a y q : Nat} (h1 : a ≤ q) (h2 : q < a + y) : a ≤ mr fs a y q ∧ mr fs a y q < a + y := by
  unfold mr
  split <;> omega
theorem mr_mr {fs : Int32} {a y q : Nat} (h1 : a ≤ q) (h2 : q < a + y) : mr fs a y (mr fs a y q) = q := by
  unfold mr
  split
  · rfl
  · omega
theorem mr_out {fs : Int32} {a y q : Nat} (ha : 1 ≤ a) (h : ¬ (a ≤ q ∧ q < a + y)) : ¬ (a ≤ mr fs a y q ∧ mr fs a y q < a + y) := by
  unfold mr
  split <;> omega
theorem Qm_mr {fs : Int32} {a y q : Nat} {Q : Nat → Nat} (h1 : a ≤ q) (h2 : q < a + y) : Qm fs a y Q (mr fs a y q) = Q q := by
  unfold Qm
  rw [mr_mr h1 h2]
theorem cn_shift {p : Nat → Bool} {a : Nat} : ∀ k, cn p (a + 1) k = cn (fun j => p (j + 1)) a k
  | 0 => rfl
  | k + 1 => by
    show cn p (a + 1) k + (if p (a + 1 + k) = true then 1 else 0) = cn (fun j => p (j + 1)) a k + (if p (a + k + 1) = true then 1 else 0)
    rw [cn_shift k, show a + 1 + k = a + k + 1 by omega]
theorem cn_front {p : Nat → Bool} {a : Nat} : ∀ k, cn p a (k + 1) = (if p a = true then 1 else 0) + cn p (a + 1) k
  | 0 => by
    show 0 + (if p (a + 0) = true then 1 else 0) = (if p a = true then 1 else 0) + 0
    rw [Nat.add_zero, Nat.zero_add, Nat.add_zero]
  | k + 1 => by
    have h := cn_front (p := p) (a := a) k
    show cn p a (k + 1) + (if p (a + (k + 1)) = true then 1 else 0) = (if p a = true then 1 else 0) + (cn p (a + 1) k + (if p (a + 1 + k) = true then 1 else 0))
    rw [h, show a + 1 + k = a + (k + 1) by omega]
    omega
theorem cn_rev {p : Nat → Bool} : ∀ (y a : Nat), cn (fun j => p (2 * a + y - 1 - j)) a y = cn p a y
  | 0, a => rfl
  | y + 1, a => by
    have h := cn_rev (p := p) y (a + 1)
    rw [cn_front (p := p) (a := a) y, ← h, cn_shift y]
    show cn (fun j => p (2 * a + (y + 1) - 1 - j)) a y + (if p (2 * a + (y + 1) - 1 - (a + y)) = true then 1 else 0) = _
    rw [show 2 * a + (y + 1) - 1 - (a + y) = a by omega, Nat.add_comm]
    congr 1
    exact cn_congr fun j h1 h2 => by
      show p (2 * a + (y + 1) - 1 - j) = p (2 * (a + 1) + y - 1 - (j + 1))
      rw [show 2 * a + (y + 1) - 1 - j = 2 * (a + 1) + y - 1 - (j + 1) by omega]
theorem cv_m {fs : Int32} {Q : Nat → Nat} {a y v : Nat} : cv (Qm fs a y Q) a y v = cv Q a y v := by
  unfold cv
  by_cases h : fs = 0
  · exact cn_congr fun j _ _ => by unfold Qm mr; rw [if_pos h]
  · rw [← cn_rev (p := fun j => decide (Q j = v)) y a]
    exact cn_congr fun j _ _ => by unfold Qm mr; rw [if_neg h]
theorem cu_m {fs : Int32} {Q : Nat → Nat} {a y : Nat} : ∀ v, cu (Qm fs a y Q) a y v = cu Q a y v
  | 0 => rfl
  | v + 1 => by
    show cu (Qm fs a y Q) a y v + cv (Qm fs a y Q) a y (v + 1) = cu Q a y v + cv Q a y (v + 1)
    rw [cu_m v, cv_m]
theorem co_m {fs : Int32} {Q : Nat → Nat} {a y m : Nat} : ∀ v, co (Qm fs a y Q) a y m v = co Q a y m v
  | 0 => rfl
  | v + 1 => by
    show co (Qm fs a y Q) a y m v + (v + 1) * min (cv (Qm fs a y Q) a y (v + 1)) (m - cu (Qm fs a y Q) a y v) = co Q a y m v + (v + 1) * min (cv Q a y (v + 1)) (m - cu Q a y v)
    rw [co_m v, cv_m, cu_m]
def OFm (fs : Int32) (Q : Nat → Nat) (a y m v j : Nat) : Nat := OF (Qm fs a y Q) a y m v (mr fs a y j)
theorem OFm_0 {fs : Int32} {Q : Nat → Nat} {a y m j : Nat} : OFm fs Q a y m 0 j = 0 := OF_0
theorem OFm_co {fs : Int32} {Q : Nat → Nat} {a y m v j : Nat} : OFm fs Q a y m v j ≤ co Q a y m v := by
  rw [← co_m (fs := fs)]
  exact OF_co
theorem OFm_step {fs : Int32} {Q : Nat → Nat} {a y m v w : Nat} (ha : 1 ≤ a) (hvw : v < w) (hg : ∀ j, a ≤ j → j < a + y → v < Q j → w ≤ Q j) : ∀ j, OFm fs Q a y m w j = if a ≤ j ∧ j < a + y ∧ Q j = w ∧ rk (Qm fs a y Q) a (mr fs a y j) < m - cu Q a y v then w else OFm fs Q a y m v j := by
  intro j
  unfold OFm
  rw [OF_step (Q := Qm fs a y Q) hvw (fun q h1 h2 h3 => hg (mr fs a y q) (mr_in (fs := fs) h1 h2).1 (mr_in (fs := fs) h1 h2).2 h3) (mr fs a y j), cu_m]
  by_cases h : a ≤ j ∧ j < a + y
  · rw [Qm_mr h.1 h.2]
    have hm := mr_in (fs := fs) h.1 h.2
    by_cases h2 : Q j = w ∧ rk (Qm fs a y Q) a (mr fs a y j) < m - cu Q a y v
    · rw [if_pos ⟨hm.1, hm.2, h2⟩, if_pos ⟨h.1, h.2, h2⟩]
    · rw [if_neg (fun q => h2 q.2.2), if_neg (fun q => h2 q.2.2)]
  · have hm := mr_out (fs := fs) ha h
    rw [if_neg (fun q => hm ⟨q.1, q.2.1⟩), if_neg (fun q => h ⟨q.1, q.2.1⟩)]
theorem OFm_case {fs : Int32} {Q : Nat → Nat} {a y m v j : Nat} (h1 : a ≤ j) (h2 : j < a + y) (hst : ∀ u, u < v → cu Q a y u < m) :
    OF (Qm fs a y Q) a y m v j = if 0 < Qm fs a y Q j ∧ Qm fs a y Q j < v then Qm fs a y Q j else if Qm fs a y Q j = v ∧ 0 < v ∧ cv (Qm fs a y Q) a (j - a) v < m - cu Q a y (v - 1) then v else 0 := by
  rw [OF_case h1 h2 (fun u hu => by rw [cu_m]; exact hst u hu), cu_m]
theorem bm_eq {fs : Int32} {Q : Nat → Nat} {a y k v u : Nat} {f g o : Nat → Int32} (hky : k < y) (hf : ∀ q, q < 60 → f q = if (a ≤ q ∧ q < a + y) ∧ mr fs a y q < a + k ∧ Q q = v ∧ rk (Qm fs a y Q) a (mr fs a y q) < u then nI v else o q) (hg : g = upd f (mr fs a y (a + k)) (nI v)) (he : Qm fs a y Q (a + k) = v) (hu : cv (Qm fs a y Q) a k v < u) :
    ∀ q, q < 60 → g q = if (a ≤ q ∧ q < a + y) ∧ mr fs a y q < a + (k + 1) ∧ Q q = v ∧ rk (Qm fs a y Q) a (mr fs a y q) < u then nI v else o q := by
  intro q hq
  have hin := mr_in (fs := fs) (a := a) (y := y) (q := a + k) (by omega) (by omega)
  have hmm := mr_mr (fs := fs) (a := a) (y := y) (q := a + k) (by omega) (by omega)
  rw [hg]
  by_cases e : q = mr fs a y (a + k)
  · rw [e, pk_us, hmm, if_pos ⟨hin, by omega, he, by rw [rk_cv he]; exact hu⟩]
  · rw [pk_un e, hf q hq]
    by_cases h : (a ≤ q ∧ q < a + y) ∧ mr fs a y q < a + k ∧ Q q = v ∧ rk (Qm fs a y Q) a (mr fs a y q) < u
    · rw [if_pos h, if_pos ⟨h.1, by omega, h.2.2⟩]
    · rw [if_neg h, if_neg (fun p => h ⟨p.1, by
        have : mr fs a y q ≠ a + k := fun z => e (by rw [← z, mr_mr p.1.1 p.1.2])
        omega, p.2.2⟩)]
theorem bm_ne {fs : Int32} {Q : Nat → Nat} {a y k v u : Nat} {f o : Nat → Int32} (hf : ∀ q, q < 60 → f q = if (a ≤ q ∧ q < a + y) ∧ mr fs a y q < a + k ∧ Q q = v ∧ rk (Qm fs a y Q) a (mr fs a y q) < u then nI v else o q) (he : ¬ Qm fs a y Q (a + k) = v) :
    ∀ q, q < 60 → f q = if (a ≤ q ∧ q < a + y) ∧ mr fs a y q < a + (k + 1) ∧ Q q = v ∧ rk (Qm fs a y Q) a (mr fs a y q) < u then nI v else o q := by
  intro q hq
  rw [hf q hq]
  by_cases h : (a ≤ q ∧ q < a + y) ∧ mr fs a y q < a + k ∧ Q q = v ∧ rk (Qm fs a y Q) a (mr fs a y q) < u
  · rw [if_pos h, if_pos ⟨h.1, by omega, h.2.2⟩]
  · rw [if_neg h, if_neg (fun p => h ⟨p.1, by
      have : mr fs a y q ≠ a + k := fun z => he (by rw [← z, Qm_mr p.1.1 p.1.2]; exact p.2.2.1)
      omega, p.2.2⟩)]
theorem bm_end {fs : Int32} {Q : Nat → Nat} {a y k v u : Nat} {f o : Nat → Int32} (hf : ∀ q, q < 60 → f q = if (a ≤ q ∧ q < a + y) ∧ mr fs a y q < a + k ∧ Q q = v ∧ rk (Qm fs a y Q) a (mr fs a y q) < u then nI v else o q) (hk : k ≤ y) (hx : k = y ∨ u ≤ cv (Qm fs a y Q) a k v) :
    min (cv (Qm fs a y Q) a k v) u = min (cv Q a y v) u ∧ ∀ q, q < 60 → f q = if a ≤ q ∧ q < a + y ∧ Q q = v ∧ rk (Qm fs a y Q) a (mr fs a y q) < u then nI v else o q := by
  refine ⟨?_, fun q hq => ?_⟩
  · rcases hx with e | e
    · rw [e, cv_m]
    · have h1 := cv_mono (Q := Qm fs a y Q) (a := a) (v := v) hk
      rw [cv_m] at h1
      omega
  · rw [hf q hq]
    by_cases h : a ≤ q ∧ q < a + y ∧ Q q = v ∧ rk (Qm fs a y Q) a (mr fs a y q) < u
    · have hm := mr_in (fs := fs) h.1 h.2.1
      have hlt : mr fs a y q < a + k := by
        rcases hx with e | e
        · omega
        · refine Nat.lt_of_not_le fun z => ?_
          have h2 : cv (Qm fs a y Q) a k v ≤ rk (Qm fs a y Q) a (mr fs a y q) := by
            unfold rk
            rw [Qm_mr h.1 h.2.1, h.2.2.1]
            exact cv_mono (Q := Qm fs a y Q) (a := a) (v := v) (k := k) (l := mr fs a y q - a) (by omega)
          have := h.2.2.2
          omega
      rw [if_pos ⟨⟨h.1, h.2.1⟩, hlt, h.2.2⟩, if_pos h]
    · rw [if_neg (fun p => h ⟨p.1.1, p.1.2, p.2.2⟩), if_neg h]
def STGm (law tie fs : Int32) (c n i : Nat) (S : Nat → Int) : Nat → Int := fun j =>
  if cc1 law (fun j => ask tie (S j)) c n i ≤ c then
    (if j = i then (c : Int) - cc1 law (fun j => ask tie (S j)) c n i else (OFm fs (fun j => ask tie (S j)) (i + 1) (n - 1 - i) (mm law (fun j => ask tie (S j)) n i) (vv law (fun j => ask tie (S j)) c n i) j : Int))
  else (if j = i then -1 else S j)
def FSm (law tie fs : Int32) (c n : Nat) : Nat → Nat → Int
  | 0 => fun _ => 0
  | k + 1 => STGm law tie fs c n (n - (k + 1)) (FSm law tie fs c n k)
theorem STGm_rng {law tie fs : Int32} {c n i : Nat} {S : Nat → Int} (hc : c ≤ 99) (h : ∀ j, i < j → j < n → -1 ≤ S j ∧ S j ≤ 99) : ∀ j, i ≤ j → j < n → -1 ≤ STGm law tie fs c n i S j ∧ STGm law tie fs c n i S j ≤ 99 := by
  intro j h1 h2
  unfold STGm
  by_cases e : j = i
  · subst e
    split
    · rw [if_pos rfl]
      omega
    · rw [if_pos rfl]
      omega
  · split
    · rename_i hcc
      have := OFm_co (fs := fs) (Q := fun j => ask tie (S j)) (a := i + 1) (y := n - 1 - i) (m := mm law (fun j => ask tie (S j)) n i) (v := vv law (fun j => ask tie (S j)) c n i) (j := j)
      unfold cc1 at hcc
      omega
    · exact h j (by omega) h2
theorem FSm_rng {law tie fs : Int32} {c n : Nat} (hc : c ≤ 99) : ∀ k, k ≤ n → ∀ j, n - k ≤ j → j < n → -1 ≤ FSm law tie fs c n k j ∧ FSm law tie fs c n k j ≤ 99
  | 0, _, j, h1, h2 => by omega
  | k + 1, hk, j, h1, h2 => STGm_rng hc (fun j q1 q2 => FSm_rng hc k (by omega) j (by omega) q2) j h1 h2
theorem FSm_suc {law tie fs : Int32} {c n i : Nat} (hi : i < n) : FSm law tie fs c n (n - i) = STGm law tie fs c n i (FSm law tie fs c n (n - (i + 1))) := by
  obtain ⟨d, hd⟩ : ∃ d, n - (i + 1) = d := ⟨_, rfl⟩
  rw [hd, show n - i = d + 1 by omega]
  show STGm law tie fs c n (n - (d + 1)) (FSm law tie fs c n d) = _
  rw [show n - (d + 1) = i by omega]
theorem stm_ok {law tie fs : Int32} {c n i : Nat} {f og sc : Nat → Int32} {x : Int32} (hi : i < n) (hn : n ≤ 60) (hcc : cc1 law (fun j => ask tie (FSm law tie fs c n (n - (i + 1)) j)) c n i ≤ c)
    (hog : ∀ q, q < 60 → og q = nI (OFm fs (fun j => ask tie (FSm law tie fs c n (n - (i + 1)) j)) (i + 1) (n - 1 - i) (mm law (fun j => ask tie (FSm law tie fs c n (n - (i + 1)) j)) n i) (vv law (fun j => ask tie (FSm law tie fs c n (n - (i + 1)) j)) c n i) q))
    (hx : x = nI c - nI (cc1 law (fun j => ask tie (FSm law tie fs c n (n - (i + 1)) j)) c n i)) (hf : f = upd (va_cpy og sc 0 0 60) i x) : ∀ j, i ≤ j → j < n → f j = iI (FSm law tie fs c n (n - i) j) := by
  intro j h1 h2
  rw [hf, FSm_suc hi]
  unfold STGm
  rw [if_pos hcc]
  by_cases e : j = i
  · subst e
    rw [pk_us, if_pos rfl, hx, nI_iI, nI_iI, iI_sub]
  · rw [pk_un e, if_neg e, sb_cpy0 (by omega), hog j (by omega), nI_iI]
theorem stm_no {law tie fs : Int32} {c n i : Nat} {f sc : Nat → Int32} (hi : i < n) (hcc : ¬ cc1 law (fun j => ask tie (FSm law tie fs c n (n - (i + 1)) j)) c n i ≤ c)
    (hsc : ∀ j, i < j → j < n → sc j = iI (FSm law tie fs c n (n - (i + 1)) j)) (hf : f = upd sc i (-1)) : ∀ j, i ≤ j → j < n → f j = iI (FSm law tie fs c n (n - i) j) := by
  intro j h1 h2
  rw [hf, FSm_suc hi]
  unfold STGm
  rw [if_neg hcc]
  by_cases e : j = i
  · subst e
    rw [pk_us, if_pos rfl]
    rfl
  · rw [pk_un e, if_neg e]
    exact hsc j (by omega) h2
theorem cc1_le {law : Int32} {Q : Nat → Nat} {c n i v : Nat} (hn : n ≤ 60) (hv : vv law Q c n i = v) (h2 : ∀ u, u < v → stp Q (i + 1) (n - 1 - i) (mm law Q n i) c u = false) (h3 : v ≤ 100) (hc : c ≤ 99) : cc1 law Q c n i ≤ 70000 := by
  unfold cc1
  rw [hv]
  match v, h2, h3 with
  | 0, _, _ => exact Nat.zero_le _
  | u + 1, h2, h3 =>
    have h4 := (stp_f.mp (h2 u (Nat.lt_succ_self u))).2
    have h5 := cv_le (Q := Q) (a := i + 1) (y := n - 1 - i) (v := u + 1)
    have h6 := mul_le_60 (w := u + 1) (t := min (cv Q (i + 1) (n - 1 - i) (u + 1)) (mm law Q n i - cu Q (i + 1) (n - 1 - i) u)) (by omega) (by omega)
    show co Q (i + 1) (n - 1 - i) (mm law Q n i) u + _ ≤ 70000
    omega
/-- the answer of alike -/
def ALK (sf : Nat → Int32) (a1 a2 a3 a4 : Int32) : Int32 :=
  if a1 < 1 ∨ a2 < 0 ∨ a3 < 0 then 1000000004 else if 60 < a1 ∨ 99 < a2 ∨ a1 ≤ a3 then 1000000006 else
  if a4 = 0 then iI (FSm (sf 1) (sf 2) (sf 3) a2.toNatClampNeg a1.toNatClampNeg a1.toNatClampNeg a3.toNatClampNeg) else
  if FSm (sf 1) (sf 2) (sf 3) a2.toNatClampNeg a1.toNatClampNeg a1.toNatClampNeg 0 = -1 then 0 else 1
theorem ALK_in {sf : Nat → Int32} {n c k : Nat} {a4 : Int32} (h1 : 1 ≤ n) (h2 : n ≤ 60) (h3 : c ≤ 99) (h4 : k < n) : ALK sf (nI n) (nI c) (nI k) a4 = if a4 = 0 then iI (FSm (sf 1) (sf 2) (sf 3) c n n k) else if FSm (sf 1) (sf 2) (sf 3) c n n 0 = -1 then 0 else 1 := by
  unfold ALK
  rw [nI_clamp (by omega), nI_clamp (by omega), nI_clamp (by omega)]
  rw [if_neg (fun q => by
    rcases q with q | q | q
    · have := (nI_ltI (a := n) (b := 1) (by omega) (by omega)).mp q
      omega
    · exact nI_pos (by omega) q
    · exact nI_pos (by omega) q), if_neg (fun q => by
    rcases q with q | q | q
    · have := (nI_ltI (a := 60) (b := n) (by omega) (by omega)).mp q
      omega
    · have := (nI_ltI (a := 99) (b := c) (by omega) (by omega)).mp q
      omega
    · have := (nI_leI (a := n) (b := k) (by omega) (by omega)).mp q
      omega)]
theorem al_of {x M : Int32} {N : Nat} (hM : M.toInt = N) (h : ¬ x < 0) (h5 : ¬ M < x) : ∃ j : Nat, j ≤ N ∧ x = nI j := nI_of2 hM h (Int32.not_lt.mp h5)
theorem lt1_0 {x : Int32} (h : ¬ x < 1) : ¬ x < 0 := fun q => h (Int32.lt_trans q (by decide))
theorem alk_4 {sf : Nat → Int32} {a1 a2 a3 a4 : Int32} (h : a1 < 1 ∨ a2 < 0 ∨ a3 < 0) : ALK sf a1 a2 a3 a4 = 1000000004 := by
  unfold ALK
  rw [if_pos h]
theorem alk_6 {sf : Nat → Int32} {a1 a2 a3 a4 : Int32} (h1 : ¬ a1 < 1) (h2 : ¬ a2 < 0) (h3 : 0 ≤ a3) (h : 60 < a1 ∨ 99 < a2 ∨ a1 ≤ a3) : ALK sf a1 a2 a3 a4 = 1000000006 := by
  unfold ALK
  rw [if_neg (fun q => by
    rcases q with q | q | q
    · exact h1 q
    · exact h2 q
    · exact Int32.not_lt.mpr h3 q), if_pos h]
theorem al_n {n : Nat} (h : ¬ nI n < 1) (hn : n ≤ 60) : 1 ≤ n := by
  rcases Nat.lt_or_ge n 1 with q | q
  · exact absurd (nI_lt (a := n) (b := 1) q (by omega)) h
  · exact q
theorem fsm_m1 {law tie fs : Int32} {c n k : Nat} (hc : c ≤ 99) (hk : k < n) : (iI (FSm law tie fs c n n k) = -1 ↔ FSm law tie fs c n n k = -1) := by
  have h := FSm_rng (law := law) (tie := tie) (fs := fs) hc n (Nat.le_refl n) k (by omega) hk
  rw [← iI_m1]
  exact iI_eq (by unfold sm; omega) (by unfold sm; omega)
theorem lsm_no {law tie fs : Int32} {c n i : Nat} {f gf : Nat → Int32} (hi : i < n) (hcc : ¬ cc1 law (fun j => ask tie (FSm law tie fs c n (n - (i + 1)) j)) c n i ≤ c)
    (hsc : ∀ j, i + 1 ≤ j → j < n → gf j = iI (FSm law tie fs c n (n - (i + 1)) j)) (hf : f = upd gf i (-1)) : (∀ j, i ≤ j → j < n → f j = iI (FSm law tie fs c n (n - i) j)) ∧ FSm law tie fs c n (n - i) i = -1 := by
  refine ⟨stm_no hi hcc (fun j h1 h2 => hsc j (by omega) h2) hf, ?_⟩
  rw [FSm_suc hi]
  unfold STGm
  rw [if_neg hcc, if_pos rfl]
theorem lsm_ok {law tie fs : Int32} {c n i : Nat} (hi : i < n) (hcc : cc1 law (fun j => ask tie (FSm law tie fs c n (n - (i + 1)) j)) c n i ≤ c) : ¬ FSm law tie fs c n (n - i) i = -1 := by
  rw [FSm_suc hi]
  unfold STGm
  rw [if_pos hcc, if_pos rfl]
  omega

set_option maxHeartbeats 1000000 in
set_option maxRecDepth 100000 in
/-- J7_fill_s -/
theorem c_J7_fill_s (l : Launch) (dC : Nat → ClassId) (dI : Nat → Nat → Nat) (aC : Nat → ClassId) (sz : Nat) (oa : Nat) (n : Nat) (f : Nat → Int32) (v : Int32) (hn : n < 2 ^ 31) : Met l yJ7_fill_53178 (wW yJ7_fill_53178 cJ7_fill_53178 4 (none : Option FieldType)) ({ frames := 0, cells := 0, slots := 0, locals := 0 } : Room) (va_Pc [Value.ref oa, Value.int v] (fun U => U.heap.size = sz ∧ va_P (dC, dI) classes [cI aC oa n f] U.heap ∧ va_K (dC, dI) classes (TY aC) U ∧ va_D (fun _ => True) [cI aC oa n f] ∧ NX U)) (va_Qv (fun (f2 : Nat → Int32) => ∀ j, j < n → f2 j = v) (fun (f2 : Nat → Int32) (t : State) => va_P (dC, dI) classes [cI aC oa n f2] t.heap ∧ va_K (dC, dI) classes (TY aC) t ∧ va_D (va_A [cI aC oa n f] sz) [cI aC oa n f2]) (va_A [cI aC oa n f] sz)) 0 0 (va_A [cI aC oa n f] sz) := by
  refine Met.ofW (cc := cJ7_fill_53178) (maxL := 4) (ret := (none : Option FieldType)) (by decide) rfl ?_
  intro p e s m args below meth c s₁ B hml hv
  obtain ⟨rfl, hsz, hP, hK, hD0, hN⟩ := hv
  have hx := B.exec
  have hb := B.bytes
  have hr := B.returns
  have hts0 := atoms_spec (ws := (wW yJ7_fill_53178 cJ7_fill_53178 4 (none : Option FieldType))) B.pre
  have hts : ∀ w9 ∈ lw_G, w9.before ([Value.ref oa, Value.int v] : List Value).toArray s = true := fun w9 h9 => hts0 w9 (List.mem_cons_of_mem _ h9)
  have hown : s.vm.findClass RJ7 = some m.cls := findClass_of_methodNamed (x := yJ7_fill_53178) B.named
  have hlocks := B.notSynchronized
  subst hsz
  have hD := hD0.self (sz := s.heap.size)
  generalize hAe : va_A [cI aC oa n f] s.heap.size = A at hD ⊢
  have hA : ∀ q : Nat, s.heap.size ≤ q → A q := fun q h => by rw [← hAe]; exact Or.inr h
  obtain ⟨H, hHe⟩ : ∃ H : Heap, H = s.heap := ⟨_, rfl⟩
  have hS : va_S A s.heap H [] := by rw [hHe]; exact va_S.rf
  have hP : va_P (dC, dI) classes [cI aC oa n f] H := by rw [hHe]; exact hP
  have hl := lv_entry ([Value.ref oa, Value.int v]) (n := 4) (Nat.le_of_ble_eq_true rfl)
  rw [lg_entry_eq]
  generalize (lg_sl ([Value.ref oa, Value.int v]) ++ List.replicate (4 - (lg_sl ([Value.ref oa, Value.int v])).length) Slot.unset).toArray = ls at hl ⊢
  have hl : lv_has ls 4 [(0, Value.ref oa), (1, Value.int v)] := hl
  rw [← hHe]
  refine lv_iconst (v := 0) hx hb dJ7_fill_53178_0 (by decide) ?_
  refine lv_istore_n (lv' := [(2, Value.int 0), (0, Value.ref oa), (1, Value.int v)]) hx hb dJ7_fill_53178_1 rfl hl (by decide) rfl (fun ls hl => ?_)
  refine lv_aload_n hx hb dJ7_fill_53178_2 rfl (lv_at hl 1 rfl) ?_
  refine va_alen (v := Int32.ofNat n) hx hb hK hP 0 0 rfl rfl rfl dJ7_fill_53178_3 ?_
  refine lv_topi (fun x_1 e_1 => ?_)
  refine lv_istore_n (lv' := [(3, Value.int x_1), (2, Value.int 0), (0, Value.ref oa), (1, Value.int v)]) hx hb dJ7_fill_53178_4 rfl hl (by decide) rfl (fun ls hl => ?_)
  have lp_5 : ∀ (fu : Nat) (k : Nat) (x2 : Int32) (fc : Nat → Int32) (hfu : n - k < fu) (hk : k ≤ n) (hx2 : x2 = nI k) (hfc : ∀ j, j < k → fc j = v) (H : Heap) (locs : List Loc) (ls : Array Slot), va_P (dC, dI) classes [cI aC oa n fc] H → va_D A [cI aC oa n fc] → va_S A s.heap H locs → lv_has ls 4 [(0, Value.ref oa), (1, Value.int v), (2, Value.int x2), (3, Value.int x_1)] → W p l e (headSpec (wW yJ7_fill_53178 cJ7_fill_53178 4 (none : Option FieldType)) ({ frames := 0, cells := 0, slots := 0, locals := 0 } : Room)).room s m ([Value.ref oa, Value.int v] : List Value).toArray below meth c H locs 0 0 (MQ below (va_Qv (fun (f2 : Nat → Int32) => ∀ j, j < n → f2 j = v) (fun (f2 : Nat → Int32) (t : State) => va_P (dC, dI) classes [cI aC oa n f2] t.heap ∧ va_K (dC, dI) classes (TY aC) t ∧ va_D A [cI aC oa n f2]) A) ([Value.ref oa, Value.int v] : List Value).toArray s 0 0 A) (F0 m 5 ls []) := by
    intro fu
    induction fu with
    | zero => intro k x2 fc hfu; exact absurd hfu (Nat.not_lt_zero _)
    | succ fu ih_5 =>
      intro k x2 fc hfu hk hx2 hfc H locs ls hP hD hS hl
      refine lv_iload_n hx hb dJ7_fill_53178_5 rfl (lv_at hl 2 rfl) ?_
      refine lv_iload_n hx hb dJ7_fill_53178_6 rfl (lv_at hl 3 rfl) ?_
      refine lv_icmp_ge (tgt := 20) hx hb dJ7_fill_53178_7 (by decide) (fun c_2 => ?_) (fun c_2 => ?_)
      · have hkn : n ≤ k := by
          rcases Nat.lt_or_ge k n with q | q
          · exact absurd (by rw [e_1, hx2] at c_2; exact c_2) (nI_ge q (by omega))
          · omega
        have hpd9 := pd_N (cx := [cI aC oa n fc]) hP hD [0] (by decide) rfl
        have hP9 := hpd9.1
        have hD9 := hpd9.2
        refine W.widen (k := 0) (n := 0) (by omega) (by omega) ?_
        exact W.vret hx hb hr (fun t ht hW => ⟨⟨(fc), rfl, fun j h => hfc j (by omega), by rw [ht]; exact hP9, va_K.moved hW.alike hK, hD9⟩, hS.F ht⟩) hS.2.2 dJ7_fill_53178_20
      · have hlt : k < n := by
          rcases Nat.lt_or_ge k n with q | q
          · exact q
          · exact absurd (by rw [e_1, hx2]; exact nI_le q (by omega)) c_2
        refine lv_aload_n hx hb dJ7_fill_53178_10 rfl (lv_at hl 0 rfl) ?_
        refine lv_iload_n hx hb dJ7_fill_53178_11 rfl (lv_at hl 2 rfl) ?_
        refine lv_iload_n hx hb dJ7_fill_53178_12 rfl (lv_at hl 1 rfl) ?_
        have h_3 : vp_in x2 n := by rw [hx2]; exact vp_in_nI hlt (by omega)
        refine va_iast hx hb hK hP hD hS 0 0 rfl rfl h_3 dJ7_fill_53178_13 (fun H locs hP hD hS => ?_)
        obtain ⟨f_4, e_f_4⟩ : ∃ y : Nat → Int32, y = upd fc (x2 : Int32).toNatClampNeg v := ⟨_, rfl⟩
        have hpd9 : PDx (dC, dI) classes A H [cI aC oa n f_4] := by rw [e_f_4]; exact ⟨hP, hD⟩
        have hP := hpd9.1
        have hD := hpd9.2
        clear hpd9
        obtain ⟨x_5, e_5⟩ : ∃ y : Int32, y = x2 + 1 := ⟨_, rfl⟩
        refine lv_iinc (v := x_5) (lv' := [(2, Value.int x_5), (0, Value.ref oa), (1, Value.int v), (3, Value.int x_1)]) hx hb dJ7_fill_53178_14 hl (k := 2) rfl (by rw [e_5]; rfl) (by decide) rfl (fun ls hl => ?_)
        refine lv_goto (tgt := 5) hx hb dJ7_fill_53178_17 (by decide) ?_
        exact ih_5 (k + 1) x_5 f_4 (by omega) (by omega) (by rw [e_5, hx2, nI_1]) (fun j h => by rw [e_f_4, hx2, nI_clamp (by omega)]; by_cases e : j = k <;> first | (rw [e]; exact pk_us) | (rw [pk_un e]; exact hfc j (by omega))) _ _ _ (hP.sub [0] rfl) (hD.sub [0] (by decide) rfl) hS (lv_sub hl [1, 2, 0, 3] rfl)
  exact lp_5 ((n - 0) + 1) 0 0 f (Nat.lt_succ_self _) (Nat.zero_le n) (rfl) (fun j h => absurd h (Nat.not_lt_zero j)) _ _ _ (hP.sub [0] rfl) (hD.sub [0] (by decide) rfl) hS (lv_sub hl [2, 3, 1, 0] rfl)

set_option maxHeartbeats 1000000 in
set_option maxRecDepth 100000 in
/-- X2_votesLacking -/
theorem c_X2_votesLacking (l : Launch) (dC : Nat → ClassId) (dI : Nat → Nat → Nat) (aC : Nat → ClassId) (sz : Nat) (y : Nat) (a : Nat) (law : Int32) (hy : y ≤ 100) (ha : 1 ≤ a ∧ a ≤ 100) : Met l yX2_votesLacking (wW yX2_votesLacking cX2_votesLacking 4 (some .int)) ({ frames := 1, cells := 0, slots := 0, locals := 22 } : Room) (va_Pc [Value.int (nI y), Value.int (nI a), Value.int law] (fun U => U.heap.size = sz ∧ va_P (dC, dI) classes [] U.heap ∧ va_K (dC, dI) classes (TY aC) U ∧ va_D (fun _ => True) [] ∧ NX U)) (va_Qi (fun (r : Int32) (_ : Unit) => r = nI (nd law a - y)) (fun (_ : Unit) (t : State) => va_P (dC, dI) classes [] t.heap ∧ va_K (dC, dI) classes (TY aC) t ∧ va_D (va_A [] sz) []) (va_A [] sz)) 0 0 (va_A [] sz) := by
  refine Met.ofW (cc := cX2_votesLacking) (maxL := 4) (ret := (some .int)) (by decide) rfl ?_
  intro p e s m args below meth c s₁ B hml hv
  obtain ⟨rfl, hsz, hP, hK, hD0, hN⟩ := hv
  have hx := B.exec
  have hb := B.bytes
  have hr := B.returns
  have hts0 := atoms_spec (ws := (wW yX2_votesLacking cX2_votesLacking 4 (some .int))) B.pre
  have hts : ∀ w9 ∈ lw_G, w9.before ([Value.int (nI y), Value.int (nI a), Value.int law] : List Value).toArray s = true := fun w9 h9 => hts0 w9 (List.mem_cons_of_mem _ h9)
  have hown : s.vm.findClass RX2 = some m.cls := findClass_of_methodNamed (x := yX2_votesLacking) B.named
  have hlocks := B.notSynchronized
  subst hsz
  have hD := hD0.self (sz := s.heap.size)
  generalize hAe : va_A [] s.heap.size = A at hD ⊢
  have hA : ∀ q : Nat, s.heap.size ≤ q → A q := fun q h => by rw [← hAe]; exact Or.inr h
  obtain ⟨H, hHe⟩ : ∃ H : Heap, H = s.heap := ⟨_, rfl⟩
  have hS : va_S A s.heap H [] := by rw [hHe]; exact va_S.rf
  have hP : va_P (dC, dI) classes [] H := by rw [hHe]; exact hP
  have hl := lv_entry ([Value.int (nI y), Value.int (nI a), Value.int law]) (n := 4) (Nat.le_of_ble_eq_true rfl)
  rw [lg_entry_eq]
  generalize (lg_sl ([Value.int (nI y), Value.int (nI a), Value.int law]) ++ List.replicate (4 - (lg_sl ([Value.int (nI y), Value.int (nI a), Value.int law])).length) Slot.unset).toArray = ls at hl ⊢
  have hl : lv_has ls 4 [(0, Value.int (nI y)), (1, Value.int (nI a)), (2, Value.int law)] := hl
  rw [← hHe]
  refine lv_iconst (v := 0) hx hb dX2_votesLacking_0 (by decide) ?_
  refine lv_istore_n (lv' := [(3, Value.int 0), (0, Value.int (nI y)), (1, Value.int (nI a)), (2, Value.int law)]) hx hb dX2_votesLacking_1 rfl hl (by decide) rfl (fun ls hl => ?_)
  have lp_2 : ∀ (fu : Nat) (k : Nat) (hfu : 200 - k < fu) (hk : k ≤ nd law a - y) (H : Heap) (locs : List Loc) (ls : Array Slot), va_P (dC, dI) classes [] H → va_D A [] → va_S A s.heap H locs → lv_has ls 4 [(0, Value.int (nI y)), (1, Value.int (nI a)), (2, Value.int law), (3, Value.int (nI k))] → W p l e (headSpec (wW yX2_votesLacking cX2_votesLacking 4 (some .int)) ({ frames := 1, cells := 0, slots := 0, locals := 22 } : Room)).room s m ([Value.int (nI y), Value.int (nI a), Value.int law] : List Value).toArray below meth c H locs 0 0 (MQ below (va_Qi (fun (r : Int32) (_ : Unit) => r = nI (nd law a - y)) (fun (_ : Unit) (t : State) => va_P (dC, dI) classes [] t.heap ∧ va_K (dC, dI) classes (TY aC) t ∧ va_D A []) A) ([Value.int (nI y), Value.int (nI a), Value.int law] : List Value).toArray s 0 0 A) (F0 m 2 ls []) := by
    intro fu
    induction fu with
    | zero => intro k hfu; exact absurd hfu (Nat.not_lt_zero _)
    | succ fu ih_2 =>
      intro k hfu hk H locs ls hP hD hS hl
      refine lv_iload_n hx hb dX2_votesLacking_2 rfl (lv_at hl 0 rfl) ?_
      refine lv_iload_n hx hb dX2_votesLacking_3 rfl (lv_at hl 3 rfl) ?_
      refine lv_iadd hx hb dX2_votesLacking_4 ?_
      refine lv_topi (fun x_1 e_1 => ?_)
      have h9 : x_1 = nI (y + k) := by rw [e_1, nI_add]
      subst h9
      refine lv_iload_n hx hb dX2_votesLacking_5 rfl (lv_at hl 1 rfl) ?_
      refine lv_icmp_ge (tgt := 26) hx hb dX2_votesLacking_6 (by decide) (fun c_2 => ?_) (fun c_2 => ?_)
      · have hge : nd law a ≤ y + k := by
          have h8 := nd_le (law := law) ha.1
          rw [nI_leI (by omega) (by omega)] at c_2
          omega
        refine lv_iload_n hx hb dX2_votesLacking_26 rfl (lv_at hl 3 rfl) ?_
        have hpd9 := pd_N (cx := []) hP hD [] (by decide) rfl
        have hP9 := hpd9.1
        have hD9 := hpd9.2
        refine W.widen (k := 0) (n := 0) (by omega) (by omega) ?_
        exact W.iret (v := nI k) hx hb hr (fun t ht hW => ⟨⟨(nI k), (), rfl, by rw [show k = nd law a - y by omega], by rw [ht]; exact hP9, va_K.moved hW.alike hK, hD9⟩, hS.F ht⟩) hS.2.2 dX2_votesLacking_27
      · refine lv_iload_n hx hb dX2_votesLacking_9 rfl (lv_at hl 2 rfl) ?_
        refine lv_iload_n hx hb dX2_votesLacking_10 rfl (lv_at hl 0 rfl) ?_
        refine lv_iload_n hx hb dX2_votesLacking_11 rfl (lv_at hl 3 rfl) ?_
        refine lv_iadd hx hb dX2_votesLacking_12 ?_
        refine lv_topi (fun x_3 e_3 => ?_)
        have h9 : x_3 = nI (y + k) := by rw [e_3, nI_add]
        subst h9
        refine lv_iload_n hx hb dX2_votesLacking_13 rfl (lv_at hl 1 rfl) ?_
        have hpd9 := pdf_N (cx := []) hP hD hS hA [] (by decide) rfl
        have hPc := hpd9.1
        have hDc := hpd9.2.1
        have hFc := hpd9.2.2
        clear hpd9
        refine va_calli (va_runSN (As := [Value.int law, Value.int (nI (y + k)), Value.int (nI a)]) (rest := []) ⟨hx, hb, hml, hown, hts⟩ (c_X11_isEnough l dC dI aC H.size law (y + k) a (by have := nd_le (law := law) ha.1; omega) (by omega)) ⟨(va_cnB 3 hts (gG kw_469) rfl rfl rfl (hN.1 _ kw_576 rfl) (hts _ (gw kw_1 rfl)) hd_X11_isEnough ⟨Nat.le_of_ble_eq_true rfl, Nat.le_of_ble_eq_true rfl⟩), (hts _ (gw kw_468 rfl)), trivial⟩ ⟨fb_std, pre_std hPc hK hDc hN⟩ rfl rfl hl.1 rfl (lv_room (Nat.le_of_ble_eq_true rfl)) dX2_votesLacking_14 ⟨Nat.le_of_ble_eq_true rfl, Nat.le_of_ble_eq_true rfl⟩) hS (fun q _ h => hFc q h) hFc (fun x_4 u9 t9 H1 locs ht hvm hw_4 hB hz1 hk1 hS => ?_)
        obtain ⟨hP1, hK1, hD1⟩ := hB
        rw [ht] at hP1
        clear hK1
        try dsimp only at hw_4
        have hpd9 : PDx (dC, dI) classes A H1 [] := jn_N (wr := []) hFc hk1 hP1 hD1 hP hD [] [] rfl rfl (by decide) (by decide)
        have hP := hpd9.1
        have hD := hpd9.2
        clear hpd9
        generalize H1 = H at hP hS ⊢
        clear hPc hDc hFc hz1 hk1 hP1 hD1 ht hvm
        have hz_14 := hw_4
        refine lv_if_ne (tgt := 26) hx hb dX2_votesLacking_17 (by decide) (fun c_5 => ?_) (fun c_5 => ?_)
        · have hge : nd law a ≤ y + k := by
            rcases Nat.lt_or_ge (y + k) (nd law a) with q | q
            · exact absurd (by rw [hz_14, if_neg (by omega)]) c_5
            · exact q
          refine lv_iload_n hx hb dX2_votesLacking_26 rfl (lv_at hl 3 rfl) ?_
          have hpd9 := pd_N (cx := []) hP hD [] (by decide) rfl
          have hP9 := hpd9.1
          have hD9 := hpd9.2
          refine W.widen (k := 0) (n := 0) (by omega) (by omega) ?_
          exact W.iret (v := nI k) hx hb hr (fun t ht hW => ⟨⟨(nI k), (), rfl, by rw [show k = nd law a - y by omega], by rw [ht]; exact hP9, va_K.moved hW.alike hK, hD9⟩, hS.F ht⟩) hS.2.2 dX2_votesLacking_27
        · have hlt : ¬ nd law a ≤ y + k := fun q => by rw [hz_14, if_pos q] at c_5; exact absurd c_5 (by decide)
          obtain ⟨x_6, e_6⟩ : ∃ y : Int32, y = (nI k) + 1 := ⟨_, rfl⟩
          refine lv_iinc (v := x_6) (lv' := [(3, Value.int x_6), (0, Value.int (nI y)), (1, Value.int (nI a)), (2, Value.int law)]) hx hb dX2_votesLacking_20 hl (k := 3) rfl (by rw [e_6]; rfl) (by decide) rfl (fun ls hl => ?_)
          have h9 : x_6 = nI (k + 1) := by rw [e_6, nI_1]
          subst h9
          refine lv_goto (tgt := 2) hx hb dX2_votesLacking_23 (by decide) ?_
          exact ih_2 (k + 1) (by have := nd_le (law := law) ha.1; omega) (by omega) _ _ _ (hP.sub [] rfl) (hD.sub [] (by decide) rfl) hS (lv_sub hl [1, 2, 3, 0] rfl)
  exact lp_2 ((200 - 0) + 1) 0 (Nat.lt_succ_self _) (Nat.zero_le _) _ _ _ (hP.sub [] rfl) (hD.sub [] (by decide) rfl) hS (lv_sub hl [1, 2, 3, 0] rfl)

set_option maxHeartbeats 1000000 in
set_option maxRecDepth 100000 in
/-- X2_askYounger -/
theorem c_X2_askYounger (l : Launch) (dC : Nat → ClassId) (dI : Nat → Nat → Nat) (aC : Nat → ClassId) (sz : Nat) (h1 : Nat) (cs : Nat) (ca : Nat) (cf : Nat) (cl : Nat) (n : Nat) (i : Nat) (cx : Int32) (tie : Int32) (S : Nat → Int) (sf : Nat → Int32) (af : Nat → Int32) (hn : i < n ∧ n ≤ 60) (hSj : ∀ j, i < j → j < n → sf j = iI (S j) ∧ -1 ≤ S j ∧ S j ≤ 99) : Met l yX2_askYounger (wW yX2_askYounger cX2_askYounger 5 (some .int)) ({ frames := 1, cells := 0, slots := 0, locals := 24 } : Room) (va_Pc [Value.ref h1, Value.int (nI i), Value.int tie] (fun U => U.heap.size = sz ∧ va_P (dC, dI) classes [oX2 h1 cs ca cf cl (nI n) cx, cI aC cs 60 sf, cI aC ca 60 af, cO cl 0 []] U.heap ∧ va_K (dC, dI) classes (TY aC) U ∧ va_D (fun _ => True) [oX2 h1 cs ca cf cl (nI n) cx, cI aC cs 60 sf, cI aC ca 60 af, cO cl 0 []] ∧ NX U)) (va_Qi (fun (r : Int32) (ag : Nat → Int32) => r = nI (cv (fun j => ask tie (S j)) (i + 1) (n - 1 - i) 0) ∧ ∀ j, i < j → j < n → ag j = nI (ask tie (S j))) (fun (ag : Nat → Int32) (t : State) => va_P (dC, dI) classes [oX2 h1 cs ca cf cl (nI n) cx, cI aC cs 60 sf, cI aC ca 60 ag, cO cl 0 []] t.heap ∧ va_K (dC, dI) classes (TY aC) t ∧ va_D (va_A [oX2 h1 cs ca cf cl (nI n) cx, cI aC cs 60 sf, cI aC ca 60 af, cO cl 0 []] sz) [oX2 h1 cs ca cf cl (nI n) cx, cI aC cs 60 sf, cI aC ca 60 ag, cO cl 0 []]) (va_A [oX2 h1 cs ca cf cl (nI n) cx, cI aC cs 60 sf, cI aC ca 60 af, cO cl 0 []] sz)) 0 0 (va_A [oX2 h1 cs ca cf cl (nI n) cx, cI aC cs 60 sf, cI aC ca 60 af, cO cl 0 []] sz) := by
  refine Met.ofW (cc := cX2_askYounger) (maxL := 5) (ret := (some .int)) (by decide) rfl ?_
  intro p e s m args below meth c s₁ B hml hv
  obtain ⟨rfl, hsz, hP, hK, hD0, hN⟩ := hv
  have hx := B.exec
  have hb := B.bytes
  have hr := B.returns
  have hts0 := atoms_spec (ws := (wW yX2_askYounger cX2_askYounger 5 (some .int))) B.pre
  have hts : ∀ w9 ∈ lw_G, w9.before ([Value.ref h1, Value.int (nI i), Value.int tie] : List Value).toArray s = true := fun w9 h9 => hts0 w9 (List.mem_cons_of_mem _ h9)
  have hown : s.vm.findClass RX2 = some m.cls := findClass_of_methodNamed (x := yX2_askYounger) B.named
  have hlocks := B.notSynchronized
  subst hsz
  have hD := hD0.self (sz := s.heap.size)
  generalize hAe : va_A [oX2 h1 cs ca cf cl (nI n) cx, cI aC cs 60 sf, cI aC ca 60 af, cO cl 0 []] s.heap.size = A at hD ⊢
  have hA : ∀ q : Nat, s.heap.size ≤ q → A q := fun q h => by rw [← hAe]; exact Or.inr h
  obtain ⟨H, hHe⟩ : ∃ H : Heap, H = s.heap := ⟨_, rfl⟩
  have hS : va_S A s.heap H [] := by rw [hHe]; exact va_S.rf
  have hP : va_P (dC, dI) classes [oX2 h1 cs ca cf cl (nI n) cx, cI aC cs 60 sf, cI aC ca 60 af, cO cl 0 []] H := by rw [hHe]; exact hP
  have hl := lv_entry ([Value.ref h1, Value.int (nI i), Value.int tie]) (n := 5) (Nat.le_of_ble_eq_true rfl)
  rw [lg_entry_eq]
  generalize (lg_sl ([Value.ref h1, Value.int (nI i), Value.int tie]) ++ List.replicate (5 - (lg_sl ([Value.ref h1, Value.int (nI i), Value.int tie])).length) Slot.unset).toArray = ls at hl ⊢
  have hl : lv_has ls 5 [(0, Value.ref h1), (1, Value.int (nI i)), (2, Value.int tie)] := hl
  rw [← hHe]
  refine lv_iconst (v := 0) hx hb dX2_askYounger_0 (by decide) ?_
  refine lv_istore_n (lv' := [(3, Value.int 0), (0, Value.ref h1), (1, Value.int (nI i)), (2, Value.int tie)]) hx hb dX2_askYounger_1 rfl hl (by decide) rfl (fun ls hl => ?_)
  refine lv_iload_n hx hb dX2_askYounger_2 rfl (lv_at hl 2 rfl) ?_
  refine lv_iconst (v := 1) hx hb dX2_askYounger_3 (by decide) ?_
  refine lv_iadd hx hb dX2_askYounger_4 ?_
  refine lv_topi (fun x_1 e_1 => ?_)
  refine lv_istore (lv' := [(4, Value.int x_1), (3, Value.int 0), (0, Value.ref h1), (1, Value.int (nI i)), (2, Value.int tie)]) hx hb dX2_askYounger_5 hl (by decide) rfl (fun ls hl => ?_)
  have h9 : x_1 = nI (i + 1) := by rw [e_1, nI_1]
  subst h9
  have h9 : (0 : Int32) = nI (cv (fun j => ask tie (S j)) (i + 1) (i + 1 - (i + 1)) 0) := by rw [Nat.sub_self]; rfl
  rw [h9] at hl
  have lp_7 : ∀ (fu : Nat) (j : Nat) (ac : Nat → Int32) (hfu : n - j < fu) (hj : i < j ∧ j ≤ n) (hac : ∀ q, i < q → q < j → ac q = nI (ask tie (S q))) (H : Heap) (locs : List Loc) (ls : Array Slot), va_P (dC, dI) classes [oX2 h1 cs ca cf cl (nI n) cx, cI aC cs 60 sf, cI aC ca 60 ac, cO cl 0 []] H → va_D A [oX2 h1 cs ca cf cl (nI n) cx, cI aC cs 60 sf, cI aC ca 60 ac, cO cl 0 []] → va_S A s.heap H locs → lv_has ls 5 [(0, Value.ref h1), (1, Value.int (nI i)), (2, Value.int tie), (3, Value.int (nI (cv (fun j => ask tie (S j)) (i + 1) (j - (i + 1)) 0))), (4, Value.int (nI j))] → W p l e (headSpec (wW yX2_askYounger cX2_askYounger 5 (some .int)) ({ frames := 1, cells := 0, slots := 0, locals := 24 } : Room)).room s m ([Value.ref h1, Value.int (nI i), Value.int tie] : List Value).toArray below meth c H locs 0 0 (MQ below (va_Qi (fun (r : Int32) (ag : Nat → Int32) => r = nI (cv (fun j => ask tie (S j)) (i + 1) (n - 1 - i) 0) ∧ ∀ j, i < j → j < n → ag j = nI (ask tie (S j))) (fun (ag : Nat → Int32) (t : State) => va_P (dC, dI) classes [oX2 h1 cs ca cf cl (nI n) cx, cI aC cs 60 sf, cI aC ca 60 ag, cO cl 0 []] t.heap ∧ va_K (dC, dI) classes (TY aC) t ∧ va_D A [oX2 h1 cs ca cf cl (nI n) cx, cI aC cs 60 sf, cI aC ca 60 ag, cO cl 0 []]) A) ([Value.ref h1, Value.int (nI i), Value.int tie] : List Value).toArray s 0 0 A) (F0 m 7 ls []) := by
    intro fu
    induction fu with
    | zero => intro j ac hfu; exact absurd hfu (Nat.not_lt_zero _)
    | succ fu ih_7 =>
      intro j ac hfu hj hac H locs ls hP hD hS hl
      refine lv_iload hx hb dX2_askYounger_7 (lv_at hl 4 rfl) ?_
      refine lv_aload_n hx hb dX2_askYounger_9 rfl (lv_at hl 0 rfl) ?_
      refine va_get (D := (dC, dI)) (ci := 2) (v := Value.int (nI n)) (C := RX2) (T := TX2) (N := 6) hx hb hts inX2 hown hK hP 0 rfl rfl 4 (by decide) (hts _ (gw kw_211 rfl)) (fun _ h9 => h9) rfl dX2_askYounger_10 ?_
      refine lv_icmp_ge (tgt := 58) hx hb dX2_askYounger_13 (by decide) (fun c_2 => ?_) (fun c_2 => ?_)
      · have hjn : j = n := by
          rcases Nat.lt_or_ge j n with q | q
          · exact absurd c_2 (nI_ge q (by omega))
          · omega
        refine lv_iload_n hx hb dX2_askYounger_58 rfl (lv_at hl 3 rfl) ?_
        have hpd9 := pd_N (cx := [oX2 h1 cs ca cf cl (nI n) cx, cI aC cs 60 sf, cI aC ca 60 ac, cO cl 0 []]) hP hD [0, 1, 2, 3] (by decide) rfl
        have hP9 := hpd9.1
        have hD9 := hpd9.2
        refine W.widen (k := 0) (n := 0) (by omega) (by omega) ?_
        exact W.iret (v := nI (cv (fun j => ask tie (S j)) (i + 1) (j - (i + 1)) 0)) hx hb hr (fun t ht hW => ⟨⟨(nI (cv (fun j => ask tie (S j)) (i + 1) (j - (i + 1)) 0)), (ac), rfl, ⟨by rw [hjn, show n - (i + 1) = n - 1 - i by omega], fun q h1 h2 => hac q h1 (by omega)⟩, by rw [ht]; exact hP9, va_K.moved hW.alike hK, hD9⟩, hS.F ht⟩) hS.2.2 dX2_askYounger_59
      · have hlt : j < n := by
          rcases Nat.lt_or_ge j n with q | q
          · exact q
          · exact absurd (nI_le q (by omega)) c_2
        obtain ⟨hs1, hs2⟩ := hSj j hj.1 hlt
        refine lv_aload_n hx hb dX2_askYounger_16 rfl (lv_at hl 0 rfl) ?_
        refine va_get (D := (dC, dI)) (ci := 2) (v := Value.ref ca) (C := RX2) (T := TX2) (N := 6) hx hb hts inX2 hown hK hP 0 rfl rfl 1 (by decide) (hts _ (gw kw_208 rfl)) (fun _ h9 => h9) rfl dX2_askYounger_17 ?_
        refine lv_iload hx hb dX2_askYounger_20 (lv_at hl 4 rfl) ?_
        refine lv_aload_n hx hb dX2_askYounger_22 rfl (lv_at hl 0 rfl) ?_
        refine va_get (D := (dC, dI)) (ci := 2) (v := Value.ref cl) (C := RX2) (T := TX2) (N := 6) hx hb hts inX2 hown hK hP 0 rfl rfl 3 (by decide) (hts _ (gw kw_210 rfl)) (fun _ h9 => h9) rfl dX2_askYounger_23 ?_
        refine lv_aload_n hx hb dX2_askYounger_26 rfl (lv_at hl 0 rfl) ?_
        refine va_get (D := (dC, dI)) (ci := 2) (v := Value.ref cs) (C := RX2) (T := TX2) (N := 6) hx hb hts inX2 hown hK hP 0 rfl rfl 0 (by decide) (hts _ (gw kw_206 rfl)) (fun _ h9 => h9) rfl dX2_askYounger_27 ?_
        refine lv_iload hx hb dX2_askYounger_30 (lv_at hl 4 rfl) ?_
        have h_3 : vp_in (nI j) 60 := vp_in_nI (by omega) (by omega)
        refine va_iald hx hb hK hP 1 0 rfl rfl h_3 dX2_askYounger_32 ?_
        refine lv_topi (fun x_4 e_4 => ?_)
        have h9 : x_4 = iI (S j) := by rw [e_4, nI_clamp (by omega)]; exact hs1
        subst h9
        refine lv_iconst (v := 0) hx hb dX2_askYounger_33 (by decide) ?_
        refine lv_iload_n hx hb dX2_askYounger_34 rfl (lv_at hl 2 rfl) ?_
        have hpd9 := pdf_N (cx := []) hP hD hS hA [] (by decide) rfl
        have hPc := hpd9.1
        have hDc := hpd9.2.1
        have hFc := hpd9.2.2
        clear hpd9
        refine va_calli (va_runV (As := [Value.int (iI (S j)), Value.int 0, Value.int tie]) (rest := [Value.int (nI j), Value.ref ca]) ⟨hx, hb, hml, hown, hts⟩ (c_X0_ask l dC dI aC H.size cl (S j) 0 tie (hs2) (by omega)) ⟨(callB_of 3 hts (gG kw_392) rfl rfl rfl (hts _ (gw kw_4 rfl)) (hts _ (gw kw_572 rfl)) hd_X0_ask ⟨Nat.le_of_ble_eq_true rfl, Nat.le_of_ble_eq_true rfl⟩), (hts _ (gw kw_367 rfl)), (hts _ (gw kw_368 rfl))⟩ ⟨fb_std, va_recv (q := (RX0, TX0, 0)) hK hP (ci := 0) (q0 := 3) rfl rfl, pre_std hPc hK hDc hN⟩ rfl rfl hl.1 rfl (lv_room (Nat.le_of_ble_eq_true rfl)) dX2_askYounger_35 ⟨Nat.le_of_ble_eq_true rfl, Nat.le_of_ble_eq_true rfl⟩) hS (fun q _ h => hFc q h) hFc (fun x_5 u9 t9 H1 locs ht hvm hw_5 hB hz1 hk1 hS => ?_)
        obtain ⟨hP1, hK1, hD1⟩ := hB
        rw [ht] at hP1
        clear hK1
        try dsimp only at hw_5
        have hpd9 : PDx (dC, dI) classes A H1 [oX2 h1 cs ca cf cl (nI n) cx, cI aC cs 60 sf, cI aC ca 60 ac, cO cl 0 []] := jn_N (wr := [oX2 h1 cs ca cf cl (nI n) cx, cI aC cs 60 sf, cI aC ca 60 ac, cO cl 0 []]) hFc hk1 hP1 hD1 hP hD [] [0, 1, 2, 3] rfl rfl (by decide) (by decide)
        have hP := hpd9.1
        have hD := hpd9.2
        clear hpd9
        generalize H1 = H at hP hS ⊢
        clear hPc hDc hFc hz1 hk1 hP1 hD1 ht hvm
        have hz_35 := hw_5
        have h_6 : vp_in (nI j) 60 := vp_in_nI (by omega) (by omega)
        refine va_iast hx hb hK hP hD hS 2 0 rfl rfl h_6 dX2_askYounger_38 (fun H locs hP hD hS => ?_)
        obtain ⟨f_7, e_f_7⟩ : ∃ y : Nat → Int32, y = upd ac (nI j : Int32).toNatClampNeg x_5 := ⟨_, rfl⟩
        have hpd9 : PDx (dC, dI) classes A H [oX2 h1 cs ca cf cl (nI n) cx, cI aC cs 60 sf, cI aC ca 60 f_7, cO cl 0 []] := by rw [e_f_7]; exact ⟨hP, hD⟩
        have hP := hpd9.1
        have hD := hpd9.2
        clear hpd9
        have hac2 : ∀ q, i < q → q < j + 1 → f_7 q = nI (ask tie (S q)) := fun q h1 h2 => by
          rw [e_f_7, nI_clamp (by omega), hz_35]
          by_cases e : q = j
          · rw [e]; exact pk_us
          · rw [pk_un e]; exact hac q h1 (by omega)
        refine lv_aload_n hx hb dX2_askYounger_39 rfl (lv_at hl 0 rfl) ?_
        refine va_get (D := (dC, dI)) (ci := 2) (v := Value.ref ca) (C := RX2) (T := TX2) (N := 6) hx hb hts inX2 hown hK hP 0 rfl rfl 1 (by decide) (hts _ (gw kw_208 rfl)) (fun _ h9 => h9) rfl dX2_askYounger_40 ?_
        refine lv_iload hx hb dX2_askYounger_43 (lv_at hl 4 rfl) ?_
        have h_8 : vp_in (nI j) 60 := vp_in_nI (by omega) (by omega)
        refine va_iald hx hb hK hP 2 0 rfl rfl h_8 dX2_askYounger_45 ?_
        refine lv_topi (fun x_9 e_9 => ?_)
        have h9 : x_9 = nI (ask tie (S j)) := by rw [e_9, nI_clamp (by omega)]; exact hac2 j hj.1 (by omega)
        subst h9
        refine lv_if_ne (tgt := 52) hx hb dX2_askYounger_46 (by decide) (fun c_10 => ?_) (fun c_10 => ?_)
        · have hcs : cv (fun j => ask tie (S j)) (i + 1) (j + 1 - (i + 1)) 0 = cv (fun j => ask tie (S j)) (i + 1) (j - (i + 1)) 0 + (if ask tie (S j) = 0 then 1 else 0) := by
            rw [show j + 1 - (i + 1) = (j - (i + 1)) + 1 by omega]
            show _ + (if decide (ask tie (S (i + 1 + (j - (i + 1)))) = 0) = true then 1 else 0) = _
            rw [show i + 1 + (j - (i + 1)) = j by omega]
            simp [cv]
          have hq0 : ¬ ask tie (S j) = 0 := fun q => c_10 (by rw [q]; rfl)
          have h9 : nI (cv (fun j => ask tie (S j)) (i + 1) (j - (i + 1)) 0) = nI (cv (fun j => ask tie (S j)) (i + 1) (j + 1 - (i + 1)) 0) := by rw [hcs, if_neg hq0]; rfl
          rw [h9] at hl
          obtain ⟨x_11, e_11⟩ : ∃ y : Int32, y = (nI j) + 1 := ⟨_, rfl⟩
          refine lv_iinc (v := x_11) (lv' := [(4, Value.int x_11), (0, Value.ref h1), (1, Value.int (nI i)), (2, Value.int tie), (3, Value.int (nI (cv (fun j => ask tie (S j)) (i + 1) (j + 1 - (i + 1)) 0)))]) hx hb dX2_askYounger_52 hl (k := 4) rfl (by rw [e_11]; rfl) (by decide) rfl (fun ls hl => ?_)
          have h9 : x_11 = nI (j + 1) := by rw [e_11, nI_1]
          subst h9
          refine lv_goto (tgt := 7) hx hb dX2_askYounger_55 (by decide) ?_
          exact ih_7 (j + 1) f_7 (by omega) (by omega) (hac2) _ _ _ (hP.sub [0, 1, 2, 3] rfl) (hD.sub [0, 1, 2, 3] (by decide) rfl) hS (lv_sub hl [1, 2, 3, 4, 0] rfl)
        · obtain ⟨x_12, e_12⟩ : ∃ y : Int32, y = (nI (cv (fun j => ask tie (S j)) (i + 1) (j - (i + 1)) 0)) + 1 := ⟨_, rfl⟩
          refine lv_iinc (v := x_12) (lv' := [(3, Value.int x_12), (0, Value.ref h1), (1, Value.int (nI i)), (2, Value.int tie), (4, Value.int (nI j))]) hx hb dX2_askYounger_49 hl (k := 3) rfl (by rw [e_12]; rfl) (by decide) rfl (fun ls hl => ?_)
          have hcs : cv (fun j => ask tie (S j)) (i + 1) (j + 1 - (i + 1)) 0 = cv (fun j => ask tie (S j)) (i + 1) (j - (i + 1)) 0 + (if ask tie (S j) = 0 then 1 else 0) := by
            rw [show j + 1 - (i + 1) = (j - (i + 1)) + 1 by omega]
            show _ + (if decide (ask tie (S (i + 1 + (j - (i + 1)))) = 0) = true then 1 else 0) = _
            rw [show i + 1 + (j - (i + 1)) = j by omega]
            simp [cv]
          have hq0 : ask tie (S j) = 0 := (nI_eq (by have := ask_le (tie := tie) hs2.2; omega) (by omega)).mp c_10
          have h9 : x_12 = nI (cv (fun j => ask tie (S j)) (i + 1) (j + 1 - (i + 1)) 0) := by rw [e_12, hcs, if_pos hq0, nI_1]
          subst h9
          obtain ⟨x_13, e_13⟩ : ∃ y : Int32, y = (nI j) + 1 := ⟨_, rfl⟩
          refine lv_iinc (v := x_13) (lv' := [(4, Value.int x_13), (3, Value.int (nI (cv (fun j => ask tie (S j)) (i + 1) (j + 1 - (i + 1)) 0))), (0, Value.ref h1), (1, Value.int (nI i)), (2, Value.int tie)]) hx hb dX2_askYounger_52 hl (k := 4) rfl (by rw [e_13]; rfl) (by decide) rfl (fun ls hl => ?_)
          have h9 : x_13 = nI (j + 1) := by rw [e_13, nI_1]
          subst h9
          refine lv_goto (tgt := 7) hx hb dX2_askYounger_55 (by decide) ?_
          exact ih_7 (j + 1) f_7 (by omega) (by omega) (hac2) _ _ _ (hP.sub [0, 1, 2, 3] rfl) (hD.sub [0, 1, 2, 3] (by decide) rfl) hS (lv_sub hl [2, 3, 4, 1, 0] rfl)
  exact lp_7 ((n - (i + 1)) + 1) (i + 1) af (Nat.lt_succ_self _) (by omega) (fun q h1 h2 => by omega) _ _ _ (hP.sub [0, 1, 2, 3] rfl) (hD.sub [0, 1, 2, 3] (by decide) rfl) hS (lv_sub hl [2, 3, 4, 1, 0] rfl)

set_option maxHeartbeats 1000000 in
set_option maxRecDepth 100000 in
/-- X2_nextLevel -/
theorem c_X2_nextLevel (l : Launch) (dC : Nat → ClassId) (dI : Nat → Nat → Nat) (aC : Nat → ClassId) (sz : Nat) (h1 : Nat) (cs : Nat) (ca : Nat) (cf : Nat) (cl : Nat) (n : Nat) (i : Nat) (cx : Int32) (Q : Nat → Nat) (af : Nat → Int32) (v : Nat) (hn : i < n ∧ n ≤ 60) (hQ : ∀ j, i < j → j < n → af j = nI (Q j) ∧ Q j ≤ 100) (hv : v ≤ 100) (hex : ∃ q, i < q ∧ q < n ∧ v < Q q) : Met l yX2_nextLevel (wW yX2_nextLevel cX2_nextLevel 5 (some .int)) ({ frames := 1, cells := 0, slots := 0, locals := 13 } : Room) (va_Pc [Value.ref h1, Value.int (nI i), Value.int (nI v)] (fun U => U.heap.size = sz ∧ va_P (dC, dI) classes [oX2 h1 cs ca cf cl (nI n) cx, cI aC ca 60 af] U.heap ∧ va_K (dC, dI) classes (TY aC) U ∧ va_D (fun _ => True) [oX2 h1 cs ca cf cl (nI n) cx, cI aC ca 60 af] ∧ NX U)) (va_Qi (fun (r : Int32) (w : Nat) => r = nI w ∧ v < w ∧ w ≤ 100 ∧ (∃ q, i < q ∧ q < n ∧ Q q = w) ∧ ∀ q, i < q → q < n → v < Q q → w ≤ Q q) (fun (w : Nat) (t : State) => va_P (dC, dI) classes [oX2 h1 cs ca cf cl (nI n) cx, cI aC ca 60 af] t.heap ∧ va_K (dC, dI) classes (TY aC) t ∧ va_D (va_A [oX2 h1 cs ca cf cl (nI n) cx, cI aC ca 60 af] sz) [oX2 h1 cs ca cf cl (nI n) cx, cI aC ca 60 af]) (va_A [oX2 h1 cs ca cf cl (nI n) cx, cI aC ca 60 af] sz)) 0 0 (va_A [oX2 h1 cs ca cf cl (nI n) cx, cI aC ca 60 af] sz) := by
  refine Met.ofW (cc := cX2_nextLevel) (maxL := 5) (ret := (some .int)) (by decide) rfl ?_
  intro p e s m args below meth c s₁ B hml hv
  obtain ⟨rfl, hsz, hP, hK, hD0, hN⟩ := hv
  have hx := B.exec
  have hb := B.bytes
  have hr := B.returns
  have hts0 := atoms_spec (ws := (wW yX2_nextLevel cX2_nextLevel 5 (some .int))) B.pre
  have hts : ∀ w9 ∈ lw_G, w9.before ([Value.ref h1, Value.int (nI i), Value.int (nI v)] : List Value).toArray s = true := fun w9 h9 => hts0 w9 (List.mem_cons_of_mem _ h9)
  have hown : s.vm.findClass RX2 = some m.cls := findClass_of_methodNamed (x := yX2_nextLevel) B.named
  have hlocks := B.notSynchronized
  subst hsz
  have hD := hD0.self (sz := s.heap.size)
  generalize hAe : va_A [oX2 h1 cs ca cf cl (nI n) cx, cI aC ca 60 af] s.heap.size = A at hD ⊢
  have hA : ∀ q : Nat, s.heap.size ≤ q → A q := fun q h => by rw [← hAe]; exact Or.inr h
  obtain ⟨H, hHe⟩ : ∃ H : Heap, H = s.heap := ⟨_, rfl⟩
  have hS : va_S A s.heap H [] := by rw [hHe]; exact va_S.rf
  have hP : va_P (dC, dI) classes [oX2 h1 cs ca cf cl (nI n) cx, cI aC ca 60 af] H := by rw [hHe]; exact hP
  have hl := lv_entry ([Value.ref h1, Value.int (nI i), Value.int (nI v)]) (n := 5) (Nat.le_of_ble_eq_true rfl)
  rw [lg_entry_eq]
  generalize (lg_sl ([Value.ref h1, Value.int (nI i), Value.int (nI v)]) ++ List.replicate (5 - (lg_sl ([Value.ref h1, Value.int (nI i), Value.int (nI v)])).length) Slot.unset).toArray = ls at hl ⊢
  have hl : lv_has ls 5 [(0, Value.ref h1), (1, Value.int (nI i)), (2, Value.int (nI v))] := hl
  rw [← hHe]
  refine lv_sipush (v := 1000) hx hb dX2_nextLevel_0 (by decide) ?_
  refine lv_istore_n (lv' := [(3, Value.int 1000), (0, Value.ref h1), (1, Value.int (nI i)), (2, Value.int (nI v))]) hx hb dX2_nextLevel_3 rfl hl (by decide) rfl (fun ls hl => ?_)
  refine lv_iload_n hx hb dX2_nextLevel_4 rfl (lv_at hl 2 rfl) ?_
  refine lv_iconst (v := 1) hx hb dX2_nextLevel_5 (by decide) ?_
  refine lv_iadd hx hb dX2_nextLevel_6 ?_
  refine lv_topi (fun x_1 e_1 => ?_)
  refine lv_istore (lv' := [(4, Value.int x_1), (3, Value.int 1000), (0, Value.ref h1), (1, Value.int (nI i)), (2, Value.int (nI v))]) hx hb dX2_nextLevel_7 hl (by decide) rfl (fun ls hl => ?_)
  have h9 : x_1 = nI (i + 1) := by rw [e_1, nI_1]
  subst h9
  have lp_9 : ∀ (fu : Nat) (j : Nat) (x : Nat) (hfu : n - j < fu) (hj : i < j ∧ j ≤ n) (hx1 : x ≤ 1000) (hx2 : ∀ q, i < q → q < j → v < Q q → x ≤ Q q) (hx3 : x = 1000 ∨ (v < x ∧ ∃ q, i < q ∧ q < j ∧ Q q = x)) (H : Heap) (locs : List Loc) (ls : Array Slot), va_P (dC, dI) classes [oX2 h1 cs ca cf cl (nI n) cx, cI aC ca 60 af] H → va_D A [oX2 h1 cs ca cf cl (nI n) cx, cI aC ca 60 af] → va_S A s.heap H locs → lv_has ls 5 [(0, Value.ref h1), (1, Value.int (nI i)), (2, Value.int (nI v)), (3, Value.int (nI x)), (4, Value.int (nI j))] → W p l e (headSpec (wW yX2_nextLevel cX2_nextLevel 5 (some .int)) ({ frames := 1, cells := 0, slots := 0, locals := 13 } : Room)).room s m ([Value.ref h1, Value.int (nI i), Value.int (nI v)] : List Value).toArray below meth c H locs 0 0 (MQ below (va_Qi (fun (r : Int32) (w : Nat) => r = nI w ∧ v < w ∧ w ≤ 100 ∧ (∃ q, i < q ∧ q < n ∧ Q q = w) ∧ ∀ q, i < q → q < n → v < Q q → w ≤ Q q) (fun (w : Nat) (t : State) => va_P (dC, dI) classes [oX2 h1 cs ca cf cl (nI n) cx, cI aC ca 60 af] t.heap ∧ va_K (dC, dI) classes (TY aC) t ∧ va_D A [oX2 h1 cs ca cf cl (nI n) cx, cI aC ca 60 af]) A) ([Value.ref h1, Value.int (nI i), Value.int (nI v)] : List Value).toArray s 0 0 A) (F0 m 9 ls []) := by
    intro fu
    induction fu with
    | zero => intro j x hfu; exact absurd hfu (Nat.not_lt_zero _)
    | succ fu ih_9 =>
      intro j x hfu hj hx1 hx2 hx3 H locs ls hP hD hS hl
      refine lv_iload hx hb dX2_nextLevel_9 (lv_at hl 4 rfl) ?_
      refine lv_aload_n hx hb dX2_nextLevel_11 rfl (lv_at hl 0 rfl) ?_
      refine va_get (D := (dC, dI)) (ci := 2) (v := Value.int (nI n)) (C := RX2) (T := TX2) (N := 6) hx hb hts inX2 hown hK hP 0 rfl rfl 4 (by decide) (hts _ (gw kw_211 rfl)) (fun _ h9 => h9) rfl dX2_nextLevel_12 ?_
      refine lv_icmp_ge (tgt := 47) hx hb dX2_nextLevel_15 (by decide) (fun c_2 => ?_) (fun c_2 => ?_)
      · have hjn : j = n := by
          rcases Nat.lt_or_ge j n with q | q
          · exact absurd c_2 (nI_ge q (by omega))
          · omega
        obtain ⟨q0, hq1, hq2, hq3⟩ := hex
        have hq4 := hx2 q0 hq1 (by omega) hq3
        have hq5 := (hQ q0 hq1 hq2).2
        refine lv_iload_n hx hb dX2_nextLevel_47 rfl (lv_at hl 3 rfl) ?_
        have hpd9 := pd_N (cx := [oX2 h1 cs ca cf cl (nI n) cx, cI aC ca 60 af]) hP hD [0, 1] (by decide) rfl
        have hP9 := hpd9.1
        have hD9 := hpd9.2
        refine W.widen (k := 0) (n := 0) (by omega) (by omega) ?_
        exact W.iret (v := nI x) hx hb hr (fun t ht hW => ⟨⟨(nI x), (x), rfl, by rcases hx3 with h | ⟨h1, q, h2, h3, h4⟩ <;> first | (exfalso; omega) | exact ⟨rfl, h1, by omega, ⟨q, h2, by omega, h4⟩, fun q h1 h2 => hx2 q h1 (by omega)⟩, by rw [ht]; exact hP9, va_K.moved hW.alike hK, hD9⟩, hS.F ht⟩) hS.2.2 dX2_nextLevel_48
      · have hlt : j < n := by
          rcases Nat.lt_or_ge j n with q | q
          · exact q
          · exact absurd (nI_le q (by omega)) c_2
        obtain ⟨hq1, hq2⟩ := hQ j hj.1 hlt
        refine lv_aload_n hx hb dX2_nextLevel_18 rfl (lv_at hl 0 rfl) ?_
        refine va_get (D := (dC, dI)) (ci := 2) (v := Value.ref ca) (C := RX2) (T := TX2) (N := 6) hx hb hts inX2 hown hK hP 0 rfl rfl 1 (by decide) (hts _ (gw kw_208 rfl)) (fun _ h9 => h9) rfl dX2_nextLevel_19 ?_
        refine lv_iload hx hb dX2_nextLevel_22 (lv_at hl 4 rfl) ?_
        have h_3 : vp_in (nI j) 60 := vp_in_nI (by omega) (by omega)
        refine va_iald hx hb hK hP 1 0 rfl rfl h_3 dX2_nextLevel_24 ?_
        refine lv_topi (fun x_4 e_4 => ?_)
        have h9 : x_4 = nI (Q j) := by rw [e_4, nI_clamp (by omega)]; exact hq1
        subst h9
        refine lv_iload_n hx hb dX2_nextLevel_25 rfl (lv_at hl 2 rfl) ?_
        refine lv_icmp_le (tgt := 41) hx hb dX2_nextLevel_26 (by decide) (fun c_5 => ?_) (fun c_5 => ?_)
        · have hvq : Q j ≤ v := (nI_leI (by omega) (by omega)).mp c_5
          have hb2 : ∀ q, i < q → q < j + 1 → v < Q q → x ≤ Q q := fun q h1 h2 h3 => by
            by_cases e : q = j
            · subst e; omega
            · exact hx2 q h1 (by omega) h3
          have hb3 : x = 1000 ∨ (v < x ∧ ∃ q, i < q ∧ q < j + 1 ∧ Q q = x) := hx3.imp id (fun ⟨h1, q, h2, h3, h4⟩ => ⟨h1, q, h2, by omega, h4⟩)
          obtain ⟨x_6, e_6⟩ : ∃ y : Int32, y = (nI j) + 1 := ⟨_, rfl⟩
          refine lv_iinc (v := x_6) (lv' := [(4, Value.int x_6), (0, Value.ref h1), (1, Value.int (nI i)), (2, Value.int (nI v)), (3, Value.int (nI x))]) hx hb dX2_nextLevel_41 hl (k := 4) rfl (by rw [e_6]; rfl) (by decide) rfl (fun ls hl => ?_)
          have h9 : x_6 = nI (j + 1) := by rw [e_6, nI_1]
          subst h9
          refine lv_goto (tgt := 9) hx hb dX2_nextLevel_44 (by decide) ?_
          exact ih_9 (j + 1) x (ms_lt hlt hfu) (by omega) (by omega) (hb2) (hb3) _ _ _ (hP.sub [0, 1] rfl) (hD.sub [0, 1] (by decide) rfl) hS (lv_sub hl [1, 2, 3, 4, 0] rfl)
        · refine lv_iload_n hx hb dX2_nextLevel_29 rfl (lv_at hl 3 rfl) ?_
          refine lv_aload_n hx hb dX2_nextLevel_30 rfl (lv_at hl 0 rfl) ?_
          refine va_get (D := (dC, dI)) (ci := 2) (v := Value.ref ca) (C := RX2) (T := TX2) (N := 6) hx hb hts inX2 hown hK hP 0 rfl rfl 1 (by decide) (hts _ (gw kw_208 rfl)) (fun _ h9 => h9) rfl dX2_nextLevel_31 ?_
          refine lv_iload hx hb dX2_nextLevel_34 (lv_at hl 4 rfl) ?_
          have h_7 : vp_in (nI j) 60 := vp_in_nI (by omega) (by omega)
          refine va_iald hx hb hK hP 1 0 rfl rfl h_7 dX2_nextLevel_36 ?_
          refine lv_topi (fun x_8 e_8 => ?_)
          have h9 : x_8 = nI (Q j) := by rw [e_8, nI_clamp (by omega)]; exact hq1
          subst h9
          refine va_mmin hx hb (by rw [hml]; exact hl.1.symm) hown (hts _ (gw kw_565 rfl)) (hts _ (gw kw_566 rfl)) (hts _ (gw kw_14 rfl)) (hts _ (gw kw_567 rfl)) (Nat.le_of_ble_eq_true rfl) (Nat.le_of_ble_eq_true rfl) (Nat.zero_le _) (Nat.zero_le _) dX2_nextLevel_37 ?_
          refine lv_topi (fun x_9 e_9 => ?_)
          have h9 : x_9 = nI (min x (Q j)) := by rw [e_9]; exact min_nI (by omega) (by omega)
          subst h9
          refine lv_istore_n (lv' := [(3, Value.int (nI (min x (Q j)))), (0, Value.ref h1), (1, Value.int (nI i)), (2, Value.int (nI v)), (4, Value.int (nI j))]) hx hb dX2_nextLevel_40 rfl hl (by decide) rfl (fun ls hl => ?_)
          have hvq : v < Q j := by
            rcases Nat.lt_or_ge v (Q j) with q | q
            · exact q
            · exact absurd ((nI_leI (by omega) (by omega)).mpr q) c_5
          have hb2 : ∀ q, i < q → q < j + 1 → v < Q q → min x (Q j) ≤ Q q := fun q h1 h2 h3 => by
            by_cases e : q = j
            · subst e; omega
            · have := hx2 q h1 (by omega) h3; omega
          have hb3 : min x (Q j) = 1000 ∨ (v < min x (Q j) ∧ ∃ q, i < q ∧ q < j + 1 ∧ Q q = min x (Q j)) := by
            by_cases e : Q j ≤ x
            · exact Or.inr ⟨by omega, j, hj.1, by omega, by omega⟩
            · rcases hx3 with h | ⟨h1, q, h2, h3, h4⟩
              · omega
              · exact Or.inr ⟨by omega, q, h2, by omega, by omega⟩
          obtain ⟨x_10, e_10⟩ : ∃ y : Int32, y = (nI j) + 1 := ⟨_, rfl⟩
          refine lv_iinc (v := x_10) (lv' := [(4, Value.int x_10), (3, Value.int (nI (min x (Q j)))), (0, Value.ref h1), (1, Value.int (nI i)), (2, Value.int (nI v))]) hx hb dX2_nextLevel_41 hl (k := 4) rfl (by rw [e_10]; rfl) (by decide) rfl (fun ls hl => ?_)
          have h9 : x_10 = nI (j + 1) := by rw [e_10, nI_1]
          subst h9
          refine lv_goto (tgt := 9) hx hb dX2_nextLevel_44 (by decide) ?_
          exact ih_9 (j + 1) (min x (Q j)) (ms_lt hlt hfu) (by omega) (by omega) (hb2) (hb3) _ _ _ (hP.sub [0, 1] rfl) (hD.sub [0, 1] (by decide) rfl) hS (lv_sub hl [2, 3, 4, 1, 0] rfl)
  exact lp_9 ((n - (i + 1)) + 1) (i + 1) 1000 (Nat.lt_succ_self _) (by omega) (by omega) (fun q h1 h2 => by omega) (Or.inl rfl) _ _ _ (hP.sub [0, 1] rfl) (hD.sub [0, 1] (by decide) rfl) hS (lv_sub hl [2, 3, 4, 1, 0] rfl)

set_option maxHeartbeats 1000000 in
set_option maxRecDepth 100000 in
/-- X2_buyAtLevel -/
theorem c_X2_buyAtLevel (l : Launch) (dC : Nat → ClassId) (dI : Nat → Nat → Nat) (aC : Nat → ClassId) (sz : Nat) (h1 : Nat) (cs : Nat) (ca : Nat) (cf : Nat) (cl : Nat) (n : Nat) (i : Nat) (cx : Int32) (Q : Nat → Nat) (af : Nat → Int32) (v : Nat) (u : Nat) (fst : Int32) (of : Nat → Int32) (hn : i < n ∧ n ≤ 60) (hQ : ∀ j, i < j → j < n → af j = nI (Q j) ∧ Q j ≤ 100) (hv : v ≤ 100) (hu : u ≤ 60) : Met l yX2_buyAtLevel (wW yX2_buyAtLevel cX2_buyAtLevel 9 (some .int)) ({ frames := 0, cells := 0, slots := 0, locals := 0 } : Room) (va_Pc [Value.ref h1, Value.int (nI i), Value.int (nI v), Value.int (nI u), Value.int fst] (fun U => U.heap.size = sz ∧ va_P (dC, dI) classes [oX2 h1 cs ca cf cl (nI n) cx, cI aC ca 60 af, cI aC cf 60 of] U.heap ∧ va_K (dC, dI) classes (TY aC) U ∧ va_D (fun _ => True) [oX2 h1 cs ca cf cl (nI n) cx, cI aC ca 60 af, cI aC cf 60 of] ∧ NX U)) (va_Qi (fun (r : Int32) (og : Nat → Int32) => r = nI (min (cv Q (i + 1) (n - 1 - i) v) u) ∧ ∀ q, q < 60 → og q = if i + 1 ≤ q ∧ q < i + 1 + (n - 1 - i) ∧ Q q = v ∧ rk (Qm fst (i + 1) (n - 1 - i) Q) (i + 1) (mr fst (i + 1) (n - 1 - i) q) < u then nI v else of q) (fun (og : Nat → Int32) (t : State) => va_P (dC, dI) classes [oX2 h1 cs ca cf cl (nI n) cx, cI aC ca 60 af, cI aC cf 60 og] t.heap ∧ va_K (dC, dI) classes (TY aC) t ∧ va_D (va_A [oX2 h1 cs ca cf cl (nI n) cx, cI aC ca 60 af, cI aC cf 60 of] sz) [oX2 h1 cs ca cf cl (nI n) cx, cI aC ca 60 af, cI aC cf 60 og]) (va_A [oX2 h1 cs ca cf cl (nI n) cx, cI aC ca 60 af, cI aC cf 60 of] sz)) 0 0 (va_A [oX2 h1 cs ca cf cl (nI n) cx, cI aC ca 60 af, cI aC cf 60 of] sz) := by
  refine Met.ofW (cc := cX2_buyAtLevel) (maxL := 9) (ret := (some .int)) (by decide) rfl ?_
  intro p e s m args below meth c s₁ B hml hv
  obtain ⟨rfl, hsz, hP, hK, hD0, hN⟩ := hv
  have hx := B.exec
  have hb := B.bytes
  have hr := B.returns
  have hts0 := atoms_spec (ws := (wW yX2_buyAtLevel cX2_buyAtLevel 9 (some .int))) B.pre
  have hts : ∀ w9 ∈ lw_G, w9.before ([Value.ref h1, Value.int (nI i), Value.int (nI v), Value.int (nI u), Value.int fst] : List Value).toArray s = true := fun w9 h9 => hts0 w9 (List.mem_cons_of_mem _ h9)
  have hown : s.vm.findClass RX2 = some m.cls := findClass_of_methodNamed (x := yX2_buyAtLevel) B.named
  have hlocks := B.notSynchronized
  subst hsz
  have hD := hD0.self (sz := s.heap.size)
  generalize hAe : va_A [oX2 h1 cs ca cf cl (nI n) cx, cI aC ca 60 af, cI aC cf 60 of] s.heap.size = A at hD ⊢
  have hA : ∀ q : Nat, s.heap.size ≤ q → A q := fun q h => by rw [← hAe]; exact Or.inr h
  obtain ⟨H, hHe⟩ : ∃ H : Heap, H = s.heap := ⟨_, rfl⟩
  have hS : va_S A s.heap H [] := by rw [hHe]; exact va_S.rf
  have hP : va_P (dC, dI) classes [oX2 h1 cs ca cf cl (nI n) cx, cI aC ca 60 af, cI aC cf 60 of] H := by rw [hHe]; exact hP
  have hl := lv_entry ([Value.ref h1, Value.int (nI i), Value.int (nI v), Value.int (nI u), Value.int fst]) (n := 9) (Nat.le_of_ble_eq_true rfl)
  rw [lg_entry_eq]
  generalize (lg_sl ([Value.ref h1, Value.int (nI i), Value.int (nI v), Value.int (nI u), Value.int fst]) ++ List.replicate (9 - (lg_sl ([Value.ref h1, Value.int (nI i), Value.int (nI v), Value.int (nI u), Value.int fst])).length) Slot.unset).toArray = ls at hl ⊢
  have hl : lv_has ls 9 [(0, Value.ref h1), (1, Value.int (nI i)), (2, Value.int (nI v)), (3, Value.int (nI u)), (4, Value.int fst)] := hl
  rw [← hHe]
  refine lv_iconst (v := 0) hx hb dX2_buyAtLevel_0 (by decide) ?_
  refine lv_topi (fun x_1 e_1 => ?_)
  have h9 : x_1 = nI (min (cv (Qm fst (i + 1) (n - 1 - i) Q) (i + 1) 0 v) u) := by rw [e_1, show cv (Qm fst (i + 1) (n - 1 - i) Q) (i + 1) 0 v = 0 from rfl, Nat.zero_min]; rfl
  subst h9
  refine lv_istore (lv' := [(5, Value.int (nI (min (cv (Qm fst (i + 1) (n - 1 - i) Q) (i + 1) 0 v) u))), (0, Value.ref h1), (1, Value.int (nI i)), (2, Value.int (nI v)), (3, Value.int (nI u)), (4, Value.int fst)]) hx hb dX2_buyAtLevel_1 hl (by decide) rfl (fun ls hl => ?_)
  refine lv_aload_n hx hb dX2_buyAtLevel_3 rfl (lv_at hl 1 rfl) ?_
  refine va_get (D := (dC, dI)) (ci := 2) (v := Value.int (nI n)) (C := RX2) (T := TX2) (N := 6) hx hb hts inX2 hown hK hP 0 rfl rfl 4 (by decide) (hts _ (gw kw_211 rfl)) (fun _ h9 => h9) rfl dX2_buyAtLevel_4 ?_
  refine lv_iconst (v := 1) hx hb dX2_buyAtLevel_7 (by decide) ?_
  refine lv_isub hx hb dX2_buyAtLevel_8 ?_
  refine lv_topi (fun x_2 e_2 => ?_)
  have h9 : x_2 = nI (n - 1) := by rw [e_2]; exact pk_sub (a := n) (b := 1) (by omega)
  subst h9
  refine lv_iload_n hx hb dX2_buyAtLevel_9 rfl (lv_at hl 2 rfl) ?_
  refine lv_isub hx hb dX2_buyAtLevel_10 ?_
  refine lv_topi (fun x_3 e_3 => ?_)
  have h9 : x_3 = nI (n - 1 - i) := by rw [e_3]; exact pk_sub (by omega)
  subst h9
  refine lv_istore (lv' := [(6, Value.int (nI (n - 1 - i))), (5, Value.int (nI (min (cv (Qm fst (i + 1) (n - 1 - i) Q) (i + 1) 0 v) u))), (0, Value.ref h1), (1, Value.int (nI i)), (2, Value.int (nI v)), (3, Value.int (nI u)), (4, Value.int fst)]) hx hb dX2_buyAtLevel_11 hl (by decide) rfl (fun ls hl => ?_)
  refine lv_iconst (v := 0) hx hb dX2_buyAtLevel_13 (by decide) ?_
  refine lv_istore (lv' := [(7, Value.int 0), (6, Value.int (nI (n - 1 - i))), (5, Value.int (nI (min (cv (Qm fst (i + 1) (n - 1 - i) Q) (i + 1) 0 v) u))), (0, Value.ref h1), (1, Value.int (nI i)), (2, Value.int (nI v)), (3, Value.int (nI u)), (4, Value.int fst)]) hx hb dX2_buyAtLevel_14 hl (by decide) rfl (fun ls hl => ?_)
  have lp_16 : ∀ (fu : Nat) (k : Nat) (fc : Nat → Int32) (hfu : n - 1 - i - k < fu) (hk : k ≤ n - 1 - i) (hfc : ∀ q, q < 60 → fc q = if (i + 1 ≤ q ∧ q < i + 1 + (n - 1 - i)) ∧ mr fst (i + 1) (n - 1 - i) q < i + 1 + k ∧ Q q = v ∧ rk (Qm fst (i + 1) (n - 1 - i) Q) (i + 1) (mr fst (i + 1) (n - 1 - i) q) < u then nI v else of q) (H : Heap) (locs : List Loc) (ls : Array Slot), va_P (dC, dI) classes [oX2 h1 cs ca cf cl (nI n) cx, cI aC ca 60 af, cI aC cf 60 fc] H → va_D A [oX2 h1 cs ca cf cl (nI n) cx, cI aC ca 60 af, cI aC cf 60 fc] → va_S A s.heap H locs → lv_has ls 9 [(0, Value.ref h1), (1, Value.int (nI i)), (2, Value.int (nI v)), (3, Value.int (nI u)), (4, Value.int fst), (5, Value.int (nI (min (cv (Qm fst (i + 1) (n - 1 - i) Q) (i + 1) k v) u))), (6, Value.int (nI (n - 1 - i))), (7, Value.int (nI k))] → W p l e (headSpec (wW yX2_buyAtLevel cX2_buyAtLevel 9 (some .int)) ({ frames := 0, cells := 0, slots := 0, locals := 0 } : Room)).room s m ([Value.ref h1, Value.int (nI i), Value.int (nI v), Value.int (nI u), Value.int fst] : List Value).toArray below meth c H locs 0 0 (MQ below (va_Qi (fun (r : Int32) (og : Nat → Int32) => r = nI (min (cv Q (i + 1) (n - 1 - i) v) u) ∧ ∀ q, q < 60 → og q = if i + 1 ≤ q ∧ q < i + 1 + (n - 1 - i) ∧ Q q = v ∧ rk (Qm fst (i + 1) (n - 1 - i) Q) (i + 1) (mr fst (i + 1) (n - 1 - i) q) < u then nI v else of q) (fun (og : Nat → Int32) (t : State) => va_P (dC, dI) classes [oX2 h1 cs ca cf cl (nI n) cx, cI aC ca 60 af, cI aC cf 60 og] t.heap ∧ va_K (dC, dI) classes (TY aC) t ∧ va_D A [oX2 h1 cs ca cf cl (nI n) cx, cI aC ca 60 af, cI aC cf 60 og]) A) ([Value.ref h1, Value.int (nI i), Value.int (nI v), Value.int (nI u), Value.int fst] : List Value).toArray s 0 0 A) (F0 m 16 ls []) := by
    intro fu
    induction fu with
    | zero => intro k fc hfu; exact absurd hfu (Nat.not_lt_zero _)
    | succ fu ih_16 =>
      intro k fc hfu hk hfc H locs ls hP hD hS hl
      refine lv_iload hx hb dX2_buyAtLevel_16 (lv_at hl 7 rfl) ?_
      refine lv_iload hx hb dX2_buyAtLevel_18 (lv_at hl 6 rfl) ?_
      refine lv_icmp_ge (tgt := 82) hx hb dX2_buyAtLevel_20 (by decide) (fun c_4 => ?_) (fun c_4 => ?_)
      · have hend : k = n - 1 - i ∨ u ≤ cv (Qm fst (i + 1) (n - 1 - i) Q) (i + 1) k v := Or.inl (by
          have := (nI_leI (by omega) (by omega)).mp c_4
          omega)
        obtain ⟨hb1, hb2⟩ := bm_end (fs := fst) (a := i + 1) (y := n - 1 - i) hfc hk hend
        refine lv_iload hx hb dX2_buyAtLevel_82 (lv_at hl 5 rfl) ?_
        have hpd9 := pd_N (cx := [oX2 h1 cs ca cf cl (nI n) cx, cI aC ca 60 af, cI aC cf 60 fc]) hP hD [0, 1, 2] (by decide) rfl
        have hP9 := hpd9.1
        have hD9 := hpd9.2
        refine W.widen (k := 0) (n := 0) (by omega) (by omega) ?_
        exact W.iret (v := nI (min (cv (Qm fst (i + 1) (n - 1 - i) Q) (i + 1) k v) u)) hx hb hr (fun t ht hW => ⟨⟨(nI (min (cv (Qm fst (i + 1) (n - 1 - i) Q) (i + 1) k v) u)), (fc), rfl, ⟨by rw [hb1], hb2⟩, by rw [ht]; exact hP9, va_K.moved hW.alike hK, hD9⟩, hS.F ht⟩) hS.2.2 dX2_buyAtLevel_84
      · have hlt : k < (n - 1 - i) := by
          rcases Nat.lt_or_ge k (n - 1 - i) with q | q
          · exact q
          · exact absurd (nI_le q (by omega)) c_4
        refine lv_iload hx hb dX2_buyAtLevel_23 (lv_at hl 5 rfl) ?_
        refine lv_iload_n hx hb dX2_buyAtLevel_25 rfl (lv_at hl 3 rfl) ?_
        refine lv_icmp_ge (tgt := 82) hx hb dX2_buyAtLevel_26 (by decide) (fun c_5 => ?_) (fun c_5 => ?_)
        · have hend : k = n - 1 - i ∨ u ≤ cv (Qm fst (i + 1) (n - 1 - i) Q) (i + 1) k v := Or.inr (by
            have h7 := cv_le (Q := (Qm fst (i + 1) (n - 1 - i) Q)) (a := i + 1) (y := k) (v := v)
            have := (nI_leI (by omega) (by omega)).mp c_5
            omega)
          obtain ⟨hb1, hb2⟩ := bm_end (fs := fst) (a := i + 1) (y := n - 1 - i) hfc hk hend
          refine lv_iload hx hb dX2_buyAtLevel_82 (lv_at hl 5 rfl) ?_
          have hpd9 := pd_N (cx := [oX2 h1 cs ca cf cl (nI n) cx, cI aC ca 60 af, cI aC cf 60 fc]) hP hD [0, 1, 2] (by decide) rfl
          have hP9 := hpd9.1
          have hD9 := hpd9.2
          refine W.widen (k := 0) (n := 0) (by omega) (by omega) ?_
          exact W.iret (v := nI (min (cv (Qm fst (i + 1) (n - 1 - i) Q) (i + 1) k v) u)) hx hb hr (fun t ht hW => ⟨⟨(nI (min (cv (Qm fst (i + 1) (n - 1 - i) Q) (i + 1) k v) u)), (fc), rfl, ⟨by rw [hb1], hb2⟩, by rw [ht]; exact hP9, va_K.moved hW.alike hK, hD9⟩, hS.F ht⟩) hS.2.2 dX2_buyAtLevel_84
        · have hcu : cv (Qm fst (i + 1) (n - 1 - i) Q) (i + 1) k v < u := by
            have h7 := cv_le (Q := (Qm fst (i + 1) (n - 1 - i) Q)) (a := i + 1) (y := k) (v := v)
            rcases Nat.lt_or_ge (cv (Qm fst (i + 1) (n - 1 - i) Q) (i + 1) k v) u with q | q
            · exact q
            · exact absurd ((nI_leI (by omega) (by omega)).mpr (by omega)) c_5
          refine lv_iload hx hb dX2_buyAtLevel_29 (lv_at hl 4 rfl) ?_
          refine lv_if_ne (tgt := 43) hx hb dX2_buyAtLevel_31 (by decide) (fun c_6 => ?_) (fun c_6 => ?_)
          · refine lv_aload_n hx hb dX2_buyAtLevel_43 rfl (lv_at hl 0 rfl) ?_
            refine va_get (D := (dC, dI)) (ci := 2) (v := Value.int (nI n)) (C := RX2) (T := TX2) (N := 6) hx hb hts inX2 hown hK hP 0 rfl rfl 4 (by decide) (hts _ (gw kw_211 rfl)) (fun _ h9 => h9) rfl dX2_buyAtLevel_44 ?_
            refine lv_iconst (v := 1) hx hb dX2_buyAtLevel_47 (by decide) ?_
            refine lv_isub hx hb dX2_buyAtLevel_48 ?_
            refine lv_topi (fun x_7 e_7 => ?_)
            have h9 : x_7 = nI (n - 1) := by rw [e_7]; exact pk_sub (a := n) (b := 1) (by omega)
            subst h9
            refine lv_iload hx hb dX2_buyAtLevel_49 (lv_at hl 7 rfl) ?_
            refine lv_isub hx hb dX2_buyAtLevel_51 ?_
            refine lv_topi (fun x_8 e_8 => ?_)
            have h9 : x_8 = nI (mr fst (i + 1) (n - 1 - i) (i + 1 + k)) := by rw [e_8, pk_sub (by omega)]; congr 1; unfold mr; rw [if_neg c_6]; omega
            subst h9
            have hmi := mr_in (fs := fst) (a := i + 1) (y := n - 1 - i) (q := i + 1 + k) (by omega) (by omega)
            obtain ⟨hq1, hq2⟩ := hQ (mr fst (i + 1) (n - 1 - i) (i + 1 + k)) (by omega) (by omega)
            refine lv_istore (lv' := [(8, Value.int (nI (mr fst (i + 1) (n - 1 - i) (i + 1 + k)))), (0, Value.ref h1), (1, Value.int (nI i)), (2, Value.int (nI v)), (3, Value.int (nI u)), (4, Value.int fst), (5, Value.int (nI (min (cv (Qm fst (i + 1) (n - 1 - i) Q) (i + 1) k v) u))), (6, Value.int (nI (n - 1 - i))), (7, Value.int (nI k))]) hx hb dX2_buyAtLevel_52 hl (by decide) rfl (fun ls hl => ?_)
            refine lv_aload_n hx hb dX2_buyAtLevel_54 rfl (lv_at hl 1 rfl) ?_
            refine va_get (D := (dC, dI)) (ci := 2) (v := Value.ref ca) (C := RX2) (T := TX2) (N := 6) hx hb hts inX2 hown hK hP 0 rfl rfl 1 (by decide) (hts _ (gw kw_208 rfl)) (fun _ h9 => h9) rfl dX2_buyAtLevel_55 ?_
            refine lv_iload hx hb dX2_buyAtLevel_58 (lv_at hl 0 rfl) ?_
            have h_9 : vp_in (nI (mr fst (i + 1) (n - 1 - i) (i + 1 + k))) 60 := vp_in_nI (by omega) (by omega)
            refine va_iald hx hb hK hP 1 0 rfl rfl h_9 dX2_buyAtLevel_60 ?_
            refine lv_topi (fun x_10 e_10 => ?_)
            have h9 : x_10 = nI (Q (mr fst (i + 1) (n - 1 - i) (i + 1 + k))) := by rw [e_10, nI_clamp (by omega)]; exact hq1
            subst h9
            refine lv_iload_n hx hb dX2_buyAtLevel_61 rfl (lv_at hl 3 rfl) ?_
            refine lv_icmp_ne (tgt := 76) hx hb dX2_buyAtLevel_62 (by decide) (fun c_11 => ?_) (fun c_11 => ?_)
            · have hqv : ¬ (Qm fst (i + 1) (n - 1 - i) Q) (i + 1 + k) = v := fun q => c_11 (by show nI ((Qm fst (i + 1) (n - 1 - i) Q) (i + 1 + k)) = _; rw [q])
              have hb2 := bm_ne (fs := fst) (a := i + 1) (y := n - 1 - i) hfc hqv
              have hl : lv_has ls 9 [(8, Value.int (nI (mr fst (i + 1) (n - 1 - i) (i + 1 + k)))), (0, Value.ref h1), (1, Value.int (nI i)), (2, Value.int (nI v)), (3, Value.int (nI u)), (4, Value.int fst), (5, Value.int (nI (min (cv (Qm fst (i + 1) (n - 1 - i) Q) (i + 1) (k + 1) v) u))), (6, Value.int (nI (n - 1 - i))), (7, Value.int (nI k))] := by rw [← (show nI (min (cv (Qm fst (i + 1) (n - 1 - i) Q) (i + 1) k v) u) = nI (min (cv (Qm fst (i + 1) (n - 1 - i) Q) (i + 1) (k + 1) v) u) by rw [cv_suc, if_neg hqv]; rfl)]; exact hl
              obtain ⟨x_12, e_12⟩ : ∃ y : Int32, y = (nI k) + 1 := ⟨_, rfl⟩
              refine lv_iinc (v := x_12) (lv' := [(7, Value.int x_12), (8, Value.int (nI (mr fst (i + 1) (n - 1 - i) (i + 1 + k)))), (0, Value.ref h1), (1, Value.int (nI i)), (2, Value.int (nI v)), (3, Value.int (nI u)), (4, Value.int fst), (5, Value.int (nI (min (cv (Qm fst (i + 1) (n - 1 - i) Q) (i + 1) (k + 1) v) u))), (6, Value.int (nI (n - 1 - i)))]) hx hb dX2_buyAtLevel_76 hl (k := 8) rfl (by rw [e_12]; rfl) (by decide) rfl (fun ls hl => ?_)
              have h9 : x_12 = nI (k + 1) := by rw [e_12, nI_1]
              subst h9
              refine lv_goto (tgt := 16) hx hb dX2_buyAtLevel_79 (by decide) ?_
              exact ih_16 (k + 1) fc (by omega) (by omega) (hb2) _ _ _ (hP.sub [0, 1, 2] rfl) (hD.sub [0, 1, 2] (by decide) rfl) hS (lv_sub hl [2, 3, 4, 5, 6, 7, 8, 0] rfl)
            · refine lv_aload_n hx hb dX2_buyAtLevel_65 rfl (lv_at hl 1 rfl) ?_
              refine va_get (D := (dC, dI)) (ci := 2) (v := Value.ref cf) (C := RX2) (T := TX2) (N := 6) hx hb hts inX2 hown hK hP 0 rfl rfl 2 (by decide) (hts _ (gw kw_209 rfl)) (fun _ h9 => h9) rfl dX2_buyAtLevel_66 ?_
              refine lv_iload hx hb dX2_buyAtLevel_69 (lv_at hl 0 rfl) ?_
              refine lv_iload_n hx hb dX2_buyAtLevel_71 rfl (lv_at hl 3 rfl) ?_
              have h_13 : vp_in (nI (mr fst (i + 1) (n - 1 - i) (i + 1 + k))) 60 := vp_in_nI (by omega) (by omega)
              refine va_iast hx hb hK hP hD hS 2 0 rfl rfl h_13 dX2_buyAtLevel_72 (fun H locs hP hD hS => ?_)
              obtain ⟨f_14, e_f_14⟩ : ∃ y : Nat → Int32, y = upd fc (nI (mr fst (i + 1) (n - 1 - i) (i + 1 + k)) : Int32).toNatClampNeg (nI v) := ⟨_, rfl⟩
              have hpd9 : PDx (dC, dI) classes A H [oX2 h1 cs ca cf cl (nI n) cx, cI aC ca 60 af, cI aC cf 60 f_14] := by rw [e_f_14]; exact ⟨hP, hD⟩
              have hP := hpd9.1
              have hD := hpd9.2
              clear hpd9
              obtain ⟨x_15, e_15⟩ : ∃ y : Int32, y = (nI (min (cv (Qm fst (i + 1) (n - 1 - i) Q) (i + 1) k v) u)) + 1 := ⟨_, rfl⟩
              refine lv_iinc (v := x_15) (lv' := [(5, Value.int x_15), (8, Value.int (nI (mr fst (i + 1) (n - 1 - i) (i + 1 + k)))), (0, Value.ref h1), (1, Value.int (nI i)), (2, Value.int (nI v)), (3, Value.int (nI u)), (4, Value.int fst), (6, Value.int (nI (n - 1 - i))), (7, Value.int (nI k))]) hx hb dX2_buyAtLevel_73 hl (k := 6) rfl (by rw [e_15]; rfl) (by decide) rfl (fun ls hl => ?_)
              have hqv : (Qm fst (i + 1) (n - 1 - i) Q) (i + 1 + k) = v := (nI_eq (by show Q (mr fst (i + 1) (n - 1 - i) (i + 1 + k)) < _; omega) (by omega)).mp c_11
              have hb2 := bm_eq (fs := fst) (a := i + 1) (y := n - 1 - i) (g := f_14) hlt hfc (by rw [e_f_14, nI_clamp (by omega)]) hqv hcu
              have h9 : x_15 = nI (min (cv (Qm fst (i + 1) (n - 1 - i) Q) (i + 1) (k + 1) v) u) := by rw [e_15, cv_suc, if_pos hqv, nI_1, show min (cv (Qm fst (i + 1) (n - 1 - i) Q) (i + 1) k v) u + 1 = min (cv (Qm fst (i + 1) (n - 1 - i) Q) (i + 1) k v + 1) u by omega]
              subst h9
              obtain ⟨x_16, e_16⟩ : ∃ y : Int32, y = (nI k) + 1 := ⟨_, rfl⟩
              refine lv_iinc (v := x_16) (lv' := [(7, Value.int x_16), (5, Value.int (nI (min (cv (Qm fst (i + 1) (n - 1 - i) Q) (i + 1) (k + 1) v) u))), (8, Value.int (nI (mr fst (i + 1) (n - 1 - i) (i + 1 + k)))), (0, Value.ref h1), (1, Value.int (nI i)), (2, Value.int (nI v)), (3, Value.int (nI u)), (4, Value.int fst), (6, Value.int (nI (n - 1 - i)))]) hx hb dX2_buyAtLevel_76 hl (k := 8) rfl (by rw [e_16]; rfl) (by decide) rfl (fun ls hl => ?_)
              have h9 : x_16 = nI (k + 1) := by rw [e_16, nI_1]
              subst h9
              refine lv_goto (tgt := 16) hx hb dX2_buyAtLevel_79 (by decide) ?_
              exact ih_16 (k + 1) f_14 (by omega) (by omega) (hb2) _ _ _ (hP.sub [0, 1, 2] rfl) (hD.sub [0, 1, 2] (by decide) rfl) hS (lv_sub hl [3, 4, 5, 6, 7, 1, 8, 0] rfl)
          · refine lv_iload_n hx hb dX2_buyAtLevel_34 rfl (lv_at hl 1 rfl) ?_
            refine lv_iconst (v := 1) hx hb dX2_buyAtLevel_35 (by decide) ?_
            refine lv_iadd hx hb dX2_buyAtLevel_36 ?_
            refine lv_topi (fun x_17 e_17 => ?_)
            have h9 : x_17 = nI (i + 1) := by rw [e_17, nI_1]
            subst h9
            refine lv_iload hx hb dX2_buyAtLevel_37 (lv_at hl 7 rfl) ?_
            refine lv_iadd hx hb dX2_buyAtLevel_39 ?_
            refine lv_topi (fun x_18 e_18 => ?_)
            refine lv_goto (tgt := 52) hx hb dX2_buyAtLevel_40 (by decide) ?_
            have h9 : x_18 = nI (mr fst (i + 1) (n - 1 - i) (i + 1 + k)) := by rw [e_18, nI_add]; congr 1; unfold mr; rw [if_pos c_6]
            subst h9
            have hmi := mr_in (fs := fst) (a := i + 1) (y := n - 1 - i) (q := i + 1 + k) (by omega) (by omega)
            obtain ⟨hq1, hq2⟩ := hQ (mr fst (i + 1) (n - 1 - i) (i + 1 + k)) (by omega) (by omega)
            refine lv_istore (lv' := [(8, Value.int (nI (mr fst (i + 1) (n - 1 - i) (i + 1 + k)))), (0, Value.ref h1), (1, Value.int (nI i)), (2, Value.int (nI v)), (3, Value.int (nI u)), (4, Value.int fst), (5, Value.int (nI (min (cv (Qm fst (i + 1) (n - 1 - i) Q) (i + 1) k v) u))), (6, Value.int (nI (n - 1 - i))), (7, Value.int (nI k))]) hx hb dX2_buyAtLevel_52 hl (by decide) rfl (fun ls hl => ?_)
            refine lv_aload_n hx hb dX2_buyAtLevel_54 rfl (lv_at hl 1 rfl) ?_
            refine va_get (D := (dC, dI)) (ci := 2) (v := Value.ref ca) (C := RX2) (T := TX2) (N := 6) hx hb hts inX2 hown hK hP 0 rfl rfl 1 (by decide) (hts _ (gw kw_208 rfl)) (fun _ h9 => h9) rfl dX2_buyAtLevel_55 ?_
            refine lv_iload hx hb dX2_buyAtLevel_58 (lv_at hl 0 rfl) ?_
            have h_19 : vp_in (nI (mr fst (i + 1) (n - 1 - i) (i + 1 + k))) 60 := vp_in_nI (by omega) (by omega)
            refine va_iald hx hb hK hP 1 0 rfl rfl h_19 dX2_buyAtLevel_60 ?_
            refine lv_topi (fun x_20 e_20 => ?_)
            have h9 : x_20 = nI (Q (mr fst (i + 1) (n - 1 - i) (i + 1 + k))) := by rw [e_20, nI_clamp (by omega)]; exact hq1
            subst h9
            refine lv_iload_n hx hb dX2_buyAtLevel_61 rfl (lv_at hl 3 rfl) ?_
            refine lv_icmp_ne (tgt := 76) hx hb dX2_buyAtLevel_62 (by decide) (fun c_21 => ?_) (fun c_21 => ?_)
            · have hqv : ¬ (Qm fst (i + 1) (n - 1 - i) Q) (i + 1 + k) = v := fun q => c_21 (by show nI ((Qm fst (i + 1) (n - 1 - i) Q) (i + 1 + k)) = _; rw [q])
              have hb2 := bm_ne (fs := fst) (a := i + 1) (y := n - 1 - i) hfc hqv
              have hl : lv_has ls 9 [(8, Value.int (nI (mr fst (i + 1) (n - 1 - i) (i + 1 + k)))), (0, Value.ref h1), (1, Value.int (nI i)), (2, Value.int (nI v)), (3, Value.int (nI u)), (4, Value.int fst), (5, Value.int (nI (min (cv (Qm fst (i + 1) (n - 1 - i) Q) (i + 1) (k + 1) v) u))), (6, Value.int (nI (n - 1 - i))), (7, Value.int (nI k))] := by rw [← (show nI (min (cv (Qm fst (i + 1) (n - 1 - i) Q) (i + 1) k v) u) = nI (min (cv (Qm fst (i + 1) (n - 1 - i) Q) (i + 1) (k + 1) v) u) by rw [cv_suc, if_neg hqv]; rfl)]; exact hl
              obtain ⟨x_22, e_22⟩ : ∃ y : Int32, y = (nI k) + 1 := ⟨_, rfl⟩
              refine lv_iinc (v := x_22) (lv' := [(7, Value.int x_22), (8, Value.int (nI (mr fst (i + 1) (n - 1 - i) (i + 1 + k)))), (0, Value.ref h1), (1, Value.int (nI i)), (2, Value.int (nI v)), (3, Value.int (nI u)), (4, Value.int fst), (5, Value.int (nI (min (cv (Qm fst (i + 1) (n - 1 - i) Q) (i + 1) (k + 1) v) u))), (6, Value.int (nI (n - 1 - i)))]) hx hb dX2_buyAtLevel_76 hl (k := 8) rfl (by rw [e_22]; rfl) (by decide) rfl (fun ls hl => ?_)
              have h9 : x_22 = nI (k + 1) := by rw [e_22, nI_1]
              subst h9
              refine lv_goto (tgt := 16) hx hb dX2_buyAtLevel_79 (by decide) ?_
              exact ih_16 (k + 1) fc (by omega) (by omega) (hb2) _ _ _ (hP.sub [0, 1, 2] rfl) (hD.sub [0, 1, 2] (by decide) rfl) hS (lv_sub hl [2, 3, 4, 5, 6, 7, 8, 0] rfl)
            · refine lv_aload_n hx hb dX2_buyAtLevel_65 rfl (lv_at hl 1 rfl) ?_
              refine va_get (D := (dC, dI)) (ci := 2) (v := Value.ref cf) (C := RX2) (T := TX2) (N := 6) hx hb hts inX2 hown hK hP 0 rfl rfl 2 (by decide) (hts _ (gw kw_209 rfl)) (fun _ h9 => h9) rfl dX2_buyAtLevel_66 ?_
              refine lv_iload hx hb dX2_buyAtLevel_69 (lv_at hl 0 rfl) ?_
              refine lv_iload_n hx hb dX2_buyAtLevel_71 rfl (lv_at hl 3 rfl) ?_
              have h_23 : vp_in (nI (mr fst (i + 1) (n - 1 - i) (i + 1 + k))) 60 := vp_in_nI (by omega) (by omega)
              refine va_iast hx hb hK hP hD hS 2 0 rfl rfl h_23 dX2_buyAtLevel_72 (fun H locs hP hD hS => ?_)
              obtain ⟨f_24, e_f_24⟩ : ∃ y : Nat → Int32, y = upd fc (nI (mr fst (i + 1) (n - 1 - i) (i + 1 + k)) : Int32).toNatClampNeg (nI v) := ⟨_, rfl⟩
              have hpd9 : PDx (dC, dI) classes A H [oX2 h1 cs ca cf cl (nI n) cx, cI aC ca 60 af, cI aC cf 60 f_24] := by rw [e_f_24]; exact ⟨hP, hD⟩
              have hP := hpd9.1
              have hD := hpd9.2
              clear hpd9
              obtain ⟨x_25, e_25⟩ : ∃ y : Int32, y = (nI (min (cv (Qm fst (i + 1) (n - 1 - i) Q) (i + 1) k v) u)) + 1 := ⟨_, rfl⟩
              refine lv_iinc (v := x_25) (lv' := [(5, Value.int x_25), (8, Value.int (nI (mr fst (i + 1) (n - 1 - i) (i + 1 + k)))), (0, Value.ref h1), (1, Value.int (nI i)), (2, Value.int (nI v)), (3, Value.int (nI u)), (4, Value.int fst), (6, Value.int (nI (n - 1 - i))), (7, Value.int (nI k))]) hx hb dX2_buyAtLevel_73 hl (k := 6) rfl (by rw [e_25]; rfl) (by decide) rfl (fun ls hl => ?_)
              have hqv : (Qm fst (i + 1) (n - 1 - i) Q) (i + 1 + k) = v := (nI_eq (by show Q (mr fst (i + 1) (n - 1 - i) (i + 1 + k)) < _; omega) (by omega)).mp c_21
              have hb2 := bm_eq (fs := fst) (a := i + 1) (y := n - 1 - i) (g := f_24) hlt hfc (by rw [e_f_24, nI_clamp (by omega)]) hqv hcu
              have h9 : x_25 = nI (min (cv (Qm fst (i + 1) (n - 1 - i) Q) (i + 1) (k + 1) v) u) := by rw [e_25, cv_suc, if_pos hqv, nI_1, show min (cv (Qm fst (i + 1) (n - 1 - i) Q) (i + 1) k v) u + 1 = min (cv (Qm fst (i + 1) (n - 1 - i) Q) (i + 1) k v + 1) u by omega]
              subst h9
              obtain ⟨x_26, e_26⟩ : ∃ y : Int32, y = (nI k) + 1 := ⟨_, rfl⟩
              refine lv_iinc (v := x_26) (lv' := [(7, Value.int x_26), (5, Value.int (nI (min (cv (Qm fst (i + 1) (n - 1 - i) Q) (i + 1) (k + 1) v) u))), (8, Value.int (nI (mr fst (i + 1) (n - 1 - i) (i + 1 + k)))), (0, Value.ref h1), (1, Value.int (nI i)), (2, Value.int (nI v)), (3, Value.int (nI u)), (4, Value.int fst), (6, Value.int (nI (n - 1 - i)))]) hx hb dX2_buyAtLevel_76 hl (k := 8) rfl (by rw [e_26]; rfl) (by decide) rfl (fun ls hl => ?_)
              have h9 : x_26 = nI (k + 1) := by rw [e_26, nI_1]
              subst h9
              refine lv_goto (tgt := 16) hx hb dX2_buyAtLevel_79 (by decide) ?_
              exact ih_16 (k + 1) f_24 (by omega) (by omega) (hb2) _ _ _ (hP.sub [0, 1, 2] rfl) (hD.sub [0, 1, 2] (by decide) rfl) hS (lv_sub hl [3, 4, 5, 6, 7, 1, 8, 0] rfl)
  exact lp_16 ((n - 1 - i - 0) + 1) 0 of (Nat.lt_succ_self _) (Nat.zero_le _) (fun q _ => by rw [if_neg (fun p => by have := (mr_in (fs := fst) p.1.1 p.1.2).1; omega)]) _ _ _ (hP.sub [0, 1, 2] rfl) (hD.sub [0, 1, 2] (by decide) rfl) hS (lv_sub hl [3, 4, 5, 6, 7, 2, 1, 0] rfl)

set_option maxHeartbeats 1000000 in
set_option maxRecDepth 100000 in
/-- X2_buyYounger -/
theorem c_X2_buyYounger (l : Launch) (dC : Nat → ClassId) (dI : Nat → Nat → Nat) (aC : Nat → ClassId) (sz : Nat) (h1 : Nat) (cs : Nat) (ca : Nat) (cf : Nat) (cl : Nat) (n : Nat) (i : Nat) (Q : Nat → Nat) (af : Nat → Int32) (cq : Nat) (mq : Nat) (fst : Int32) (of : Nat → Int32) (hn : i < n ∧ n ≤ 60) (hQ : ∀ j, i < j → j < n → af j = nI (Q j) ∧ Q j ≤ 100) (hm : mq ≤ cu Q (i + 1) (n - 1 - i) 100) (hc : cq ≤ 99) : Met l yX2_buyYounger (wW yX2_buyYounger cX2_buyYounger 9 (some .int)) ({ frames := 2, cells := 0, slots := 0, locals := 37 } : Room) (va_Pc [Value.ref h1, Value.int (nI i), Value.int (nI mq), Value.int fst] (fun U => U.heap.size = sz ∧ va_P (dC, dI) classes [oX2 h1 cs ca cf cl (nI n) (nI cq), cI aC ca 60 af, cI aC cf 60 of] U.heap ∧ va_K (dC, dI) classes (TY aC) U ∧ va_D (fun _ => True) [oX2 h1 cs ca cf cl (nI n) (nI cq), cI aC ca 60 af, cI aC cf 60 of] ∧ NX U)) (va_Qi (fun (r : Int32) (u : (Nat → Int32) × Nat) => match u with | (og, w) => r = nI (co Q (i + 1) (n - 1 - i) mq w) ∧ stp Q (i + 1) (n - 1 - i) mq cq w = true ∧ (∀ u, u < w → stp Q (i + 1) (n - 1 - i) mq cq u = false) ∧ w ≤ 100 ∧ ∀ q, q < 60 → og q = nI (OFm fst Q (i + 1) (n - 1 - i) mq w q)) (fun (u : (Nat → Int32) × Nat) (t : State) => match u with | (og, w) => va_P (dC, dI) classes [oX2 h1 cs ca cf cl (nI n) (nI cq), cI aC ca 60 af, cI aC cf 60 og] t.heap ∧ va_K (dC, dI) classes (TY aC) t ∧ va_D (va_A [oX2 h1 cs ca cf cl (nI n) (nI cq), cI aC ca 60 af, cI aC cf 60 of] sz) [oX2 h1 cs ca cf cl (nI n) (nI cq), cI aC ca 60 af, cI aC cf 60 og]) (va_A [oX2 h1 cs ca cf cl (nI n) (nI cq), cI aC ca 60 af, cI aC cf 60 of] sz)) 0 0 (va_A [oX2 h1 cs ca cf cl (nI n) (nI cq), cI aC ca 60 af, cI aC cf 60 of] sz) := by
  refine Met.ofW (cc := cX2_buyYounger) (maxL := 9) (ret := (some .int)) (by decide) rfl ?_
  intro p e s m args below meth c s₁ B hml hv
  obtain ⟨rfl, hsz, hP, hK, hD0, hN⟩ := hv
  have hx := B.exec
  have hb := B.bytes
  have hr := B.returns
  have hts0 := atoms_spec (ws := (wW yX2_buyYounger cX2_buyYounger 9 (some .int))) B.pre
  have hts : ∀ w9 ∈ lw_G, w9.before ([Value.ref h1, Value.int (nI i), Value.int (nI mq), Value.int fst] : List Value).toArray s = true := fun w9 h9 => hts0 w9 (List.mem_cons_of_mem _ h9)
  have hown : s.vm.findClass RX2 = some m.cls := findClass_of_methodNamed (x := yX2_buyYounger) B.named
  have hlocks := B.notSynchronized
  subst hsz
  have hD := hD0.self (sz := s.heap.size)
  generalize hAe : va_A [oX2 h1 cs ca cf cl (nI n) (nI cq), cI aC ca 60 af, cI aC cf 60 of] s.heap.size = A at hD ⊢
  have hA : ∀ q : Nat, s.heap.size ≤ q → A q := fun q h => by rw [← hAe]; exact Or.inr h
  obtain ⟨H, hHe⟩ : ∃ H : Heap, H = s.heap := ⟨_, rfl⟩
  have hS : va_S A s.heap H [] := by rw [hHe]; exact va_S.rf
  have hP : va_P (dC, dI) classes [oX2 h1 cs ca cf cl (nI n) (nI cq), cI aC ca 60 af, cI aC cf 60 of] H := by rw [hHe]; exact hP
  have hl := lv_entry ([Value.ref h1, Value.int (nI i), Value.int (nI mq), Value.int fst]) (n := 9) (Nat.le_of_ble_eq_true rfl)
  rw [lg_entry_eq]
  generalize (lg_sl ([Value.ref h1, Value.int (nI i), Value.int (nI mq), Value.int fst]) ++ List.replicate (9 - (lg_sl ([Value.ref h1, Value.int (nI i), Value.int (nI mq), Value.int fst])).length) Slot.unset).toArray = ls at hl ⊢
  have hl : lv_has ls 9 [(0, Value.ref h1), (1, Value.int (nI i)), (2, Value.int (nI mq)), (3, Value.int fst)] := hl
  rw [← hHe]
  have hm2 : mq ≤ n - 1 - i := by
    have := cu_100 (Q := Q) (a := i + 1) (y := n - 1 - i) (fun j q1 q2 => (hQ j (by omega) (by omega)).2)
    omega
  refine lv_aload_n hx hb dX2_buyYounger_0 rfl (lv_at hl 0 rfl) ?_
  refine va_get (D := (dC, dI)) (ci := 2) (v := Value.ref cf) (C := RX2) (T := TX2) (N := 6) hx hb hts inX2 hown hK hP 0 rfl rfl 2 (by decide) (hts _ (gw kw_209 rfl)) (fun _ h9 => h9) rfl dX2_buyYounger_1 ?_
  refine lv_iconst (v := 0) hx hb dX2_buyYounger_4 (by decide) ?_
  have hpd9 := pdf_N (cx := [cI aC cf 60 of]) hP hD hS hA [2] (by decide) rfl
  have hPc := hpd9.1
  have hDc := hpd9.2.1
  have hFc := hpd9.2.2
  clear hpd9
  refine va_callv (va_runS (As := [Value.ref cf, Value.int 0]) (rest := []) ⟨hx, hb, hml, hown, hts⟩ (c_J7_fill_s l dC dI aC H.size cf 60 of 0 (by decide)) ⟨(callB_of 2 hts (gG kw_399) rfl rfl rfl (hts _ (gw kw_15 rfl)) (hts _ (gw kw_581 rfl)) hd_J7_fill_53178 ⟨Nat.le_of_ble_eq_true rfl, Nat.le_of_ble_eq_true rfl⟩), (hts _ (gw kw_398 rfl))⟩ ⟨fb_std, pre_std hPc hK hDc hN⟩ rfl rfl hl.1 rfl (lv_room (Nat.le_of_ble_eq_true rfl)) dX2_buyYounger_5 ⟨Nat.le_of_ble_eq_true rfl, Nat.le_of_ble_eq_true rfl⟩) hS (fun q _ h => hFc q h) hFc (fun u9 t9 H1 locs ht hvm hw_1 hB hz1 hk1 hS => ?_)
  obtain ⟨u_2, rfl⟩ : ∃ z, z = u9 := ⟨_, rfl⟩
  obtain ⟨hP1, hK1, hD1⟩ := hB
  rw [ht] at hP1
  clear hK1
  try dsimp only at hw_1
  have hpd9 : PDx (dC, dI) classes A H1 [oX2 h1 cs ca cf cl (nI n) (nI cq), cI aC ca 60 af, cI aC cf 60 u_2] := jn_N (wr := [oX2 h1 cs ca cf cl (nI n) (nI cq), cI aC ca 60 af]) hFc hk1 hP1 hD1 hP hD [2] [0, 1] rfl rfl (by decide) (by decide)
  have hP := hpd9.1
  have hD := hpd9.2
  clear hpd9
  generalize H1 = H at hP hS ⊢
  clear hPc hDc hFc hz1 hk1 hP1 hD1 ht hvm
  have hfill := hw_1
  refine lv_iconst (v := 0) hx hb dX2_buyYounger_8 (by decide) ?_
  refine lv_istore (lv' := [(4, Value.int 0), (0, Value.ref h1), (1, Value.int (nI i)), (2, Value.int (nI mq)), (3, Value.int fst)]) hx hb dX2_buyYounger_9 hl (by decide) rfl (fun ls hl => ?_)
  refine lv_iload_n hx hb dX2_buyYounger_11 rfl (lv_at hl 3 rfl) ?_
  refine lv_istore (lv' := [(5, Value.int (nI mq)), (4, Value.int 0), (0, Value.ref h1), (1, Value.int (nI i)), (2, Value.int (nI mq)), (3, Value.int fst)]) hx hb dX2_buyYounger_12 hl (by decide) rfl (fun ls hl => ?_)
  refine lv_iconst (v := 0) hx hb dX2_buyYounger_14 (by decide) ?_
  refine lv_istore (lv' := [(6, Value.int 0), (5, Value.int (nI mq)), (4, Value.int 0), (0, Value.ref h1), (1, Value.int (nI i)), (2, Value.int (nI mq)), (3, Value.int fst)]) hx hb dX2_buyYounger_15 hl (by decide) rfl (fun ls hl => ?_)
  refine lv_iconst (v := 0) hx hb dX2_buyYounger_17 (by decide) ?_
  refine lv_istore (lv' := [(7, Value.int 0), (6, Value.int 0), (5, Value.int (nI mq)), (4, Value.int 0), (0, Value.ref h1), (1, Value.int (nI i)), (2, Value.int (nI mq)), (3, Value.int fst)]) hx hb dX2_buyYounger_18 hl (by decide) rfl (fun ls hl => ?_)
  have lp_20 : ∀ (fu : Nat) (v : Nat) (r : Nat) (fc : Nat → Int32) (hfu : mq - r < fu) (hv : v ≤ 100) (hr1 : r + (mq - cu Q (i + 1) (n - 1 - i) v) ≤ mq) (hst : ∀ u, u < v → stp Q (i + 1) (n - 1 - i) mq cq u = false) (hfc : ∀ q, q < 60 → fc q = nI (OFm fst Q (i + 1) (n - 1 - i) mq v q)) (hco : co Q (i + 1) (n - 1 - i) mq v ≤ 70000) (H : Heap) (locs : List Loc) (ls : Array Slot), va_P (dC, dI) classes [oX2 h1 cs ca cf cl (nI n) (nI cq), cI aC ca 60 af, cI aC cf 60 fc] H → va_D A [oX2 h1 cs ca cf cl (nI n) (nI cq), cI aC ca 60 af, cI aC cf 60 fc] → va_S A s.heap H locs → lv_has ls 9 [(0, Value.ref h1), (1, Value.int (nI i)), (2, Value.int (nI mq)), (3, Value.int fst), (4, Value.int (nI (co Q (i + 1) (n - 1 - i) mq v))), (5, Value.int (nI (mq - cu Q (i + 1) (n - 1 - i) v))), (6, Value.int (nI v)), (7, Value.int (nI r))] → W p l e (headSpec (wW yX2_buyYounger cX2_buyYounger 9 (some .int)) ({ frames := 2, cells := 0, slots := 0, locals := 37 } : Room)).room s m ([Value.ref h1, Value.int (nI i), Value.int (nI mq), Value.int fst] : List Value).toArray below meth c H locs 0 0 (MQ below (va_Qi (fun (r : Int32) (u : (Nat → Int32) × Nat) => match u with | (og, w) => r = nI (co Q (i + 1) (n - 1 - i) mq w) ∧ stp Q (i + 1) (n - 1 - i) mq cq w = true ∧ (∀ u, u < w → stp Q (i + 1) (n - 1 - i) mq cq u = false) ∧ w ≤ 100 ∧ ∀ q, q < 60 → og q = nI (OFm fst Q (i + 1) (n - 1 - i) mq w q)) (fun (u : (Nat → Int32) × Nat) (t : State) => match u with | (og, w) => va_P (dC, dI) classes [oX2 h1 cs ca cf cl (nI n) (nI cq), cI aC ca 60 af, cI aC cf 60 og] t.heap ∧ va_K (dC, dI) classes (TY aC) t ∧ va_D A [oX2 h1 cs ca cf cl (nI n) (nI cq), cI aC ca 60 af, cI aC cf 60 og]) A) ([Value.ref h1, Value.int (nI i), Value.int (nI mq), Value.int fst] : List Value).toArray s 0 0 A) (F0 m 20 ls []) := by
    intro fu
    induction fu with
    | zero => intro v r fc hfu; exact absurd hfu (Nat.not_lt_zero _)
    | succ fu ih_20 =>
      intro v r fc hfu hv hr1 hst hfc hco H locs ls hP hD hS hl
      refine lv_iload hx hb dX2_buyYounger_20 (lv_at hl 7 rfl) ?_
      refine lv_aload_n hx hb dX2_buyYounger_22 rfl (lv_at hl 0 rfl) ?_
      refine va_get (D := (dC, dI)) (ci := 2) (v := Value.int (nI n)) (C := RX2) (T := TX2) (N := 6) hx hb hts inX2 hown hK hP 0 rfl rfl 4 (by decide) (hts _ (gw kw_211 rfl)) (fun _ h9 => h9) rfl dX2_buyYounger_23 ?_
      refine lv_icmp_ge (tgt := 87) hx hb dX2_buyYounger_26 (by decide) (fun c_3 => ?_) (fun c_3 => ?_)
      · exact absurd ((nI_leI (by omega) (by omega)).mp c_3) (by omega)
      · refine lv_iload hx hb dX2_buyYounger_29 (lv_at hl 5 rfl) ?_
        refine lv_if_le (tgt := 87) hx hb dX2_buyYounger_31 (by decide) (fun c_4 => ?_) (fun c_4 => ?_)
        · have hstop : stp Q (i + 1) (n - 1 - i) mq cq v = true := stp_t.mpr (Or.inl (by
            have := (nI_leI (a := mq - cu Q (i + 1) (n - 1 - i) v) (b := 0) (by omega) (by omega)).mp c_4
            omega))
          refine lv_iload hx hb dX2_buyYounger_87 (lv_at hl 4 rfl) ?_
          have hpd9 := pd_N (cx := [oX2 h1 cs ca cf cl (nI n) (nI cq), cI aC ca 60 af, cI aC cf 60 fc]) hP hD [0, 1, 2] (by decide) rfl
          have hP9 := hpd9.1
          have hD9 := hpd9.2
          refine W.widen (k := 0) (n := 0) (by omega) (by omega) ?_
          exact W.iret (v := nI (co Q (i + 1) (n - 1 - i) mq v)) hx hb hr (fun t ht hW => ⟨⟨(nI (co Q (i + 1) (n - 1 - i) mq v)), (fc, v), rfl, ⟨rfl, hstop, hst, hv, hfc⟩, by rw [ht]; exact hP9, va_K.moved hW.alike hK, hD9⟩, hS.F ht⟩) hS.2.2 dX2_buyYounger_89
        · have hrest : cu Q (i + 1) (n - 1 - i) v < mq := by
            rcases Nat.lt_or_ge (cu Q (i + 1) (n - 1 - i) v) mq with q | q
            · exact q
            · exact absurd ((nI_leI (a := mq - cu Q (i + 1) (n - 1 - i) v) (b := 0) (by omega) (by omega)).mpr (by omega)) c_4
          refine lv_iload hx hb dX2_buyYounger_34 (lv_at hl 4 rfl) ?_
          refine lv_aload_n hx hb dX2_buyYounger_36 rfl (lv_at hl 0 rfl) ?_
          refine va_get (D := (dC, dI)) (ci := 2) (v := Value.int (nI cq)) (C := RX2) (T := TX2) (N := 6) hx hb hts inX2 hown hK hP 0 rfl rfl 5 (by decide) (hts _ (gw kw_212 rfl)) (fun _ h9 => h9) rfl dX2_buyYounger_37 ?_
          refine lv_icmp_gt (tgt := 87) hx hb dX2_buyYounger_40 (by decide) (fun c_5 => ?_) (fun c_5 => ?_)
          · have hstop : stp Q (i + 1) (n - 1 - i) mq cq v = true := stp_t.mpr (Or.inr ((nI_ltI (by omega) (by omega)).mp c_5))
            refine lv_iload hx hb dX2_buyYounger_87 (lv_at hl 4 rfl) ?_
            have hpd9 := pd_N (cx := [oX2 h1 cs ca cf cl (nI n) (nI cq), cI aC ca 60 af, cI aC cf 60 fc]) hP hD [0, 1, 2] (by decide) rfl
            have hP9 := hpd9.1
            have hD9 := hpd9.2
            refine W.widen (k := 0) (n := 0) (by omega) (by omega) ?_
            exact W.iret (v := nI (co Q (i + 1) (n - 1 - i) mq v)) hx hb hr (fun t ht hW => ⟨⟨(nI (co Q (i + 1) (n - 1 - i) mq v)), (fc, v), rfl, ⟨rfl, hstop, hst, hv, hfc⟩, by rw [ht]; exact hP9, va_K.moved hW.alike hK, hD9⟩, hS.F ht⟩) hS.2.2 dX2_buyYounger_89
          · have hcc : co Q (i + 1) (n - 1 - i) mq v ≤ cq := by
              rcases Nat.lt_or_ge cq (co Q (i + 1) (n - 1 - i) mq v) with q | q
              · exact absurd (nI_lt q (by omega)) c_5
              · exact q
            have hex : ∃ q, i < q ∧ q < n ∧ v < Q q := by
              obtain ⟨q, q1, q2, q3⟩ := lv_ex hm hrest
              exact ⟨q, by omega, by omega, q3⟩
            refine lv_aload_n hx hb dX2_buyYounger_43 rfl (lv_at hl 0 rfl) ?_
            refine lv_iload_n hx hb dX2_buyYounger_44 rfl (lv_at hl 1 rfl) ?_
            refine lv_iload hx hb dX2_buyYounger_45 (lv_at hl 6 rfl) ?_
            have hpd9 := pdf_N (cx := [oX2 h1 cs ca cf cl (nI n) (nI cq), cI aC ca 60 af]) hP hD hS hA [0, 1] (by decide) rfl
            have hPc := hpd9.1
            have hDc := hpd9.2.1
            have hFc := hpd9.2.2
            clear hpd9
            refine va_calli (va_runV (As := [Value.int (nI i), Value.int (nI v)]) (rest := []) ⟨hx, hb, hml, hown, hts⟩ (c_X2_nextLevel l dC dI aC H.size h1 cs ca cf cl n i (nI cq) Q af v (hn) (hQ) (hv) (hex)) ⟨(callB_of 2 hts (gG kw_585) rfl rfl rfl (hts _ (gw kw_12 rfl)) (hts _ (gw kw_582 rfl)) hd_X2_nextLevel ⟨Nat.le_of_ble_eq_true rfl, Nat.le_of_ble_eq_true rfl⟩), (hts _ (gw kw_584 rfl)), (hts _ (gw ks_24 rfl))⟩ ⟨fb_std, va_recv (q := (RX2, TX2, 6)) hK hPc (ci := 2) (q0 := 0) rfl rfl, pre_std hPc hK hDc hN⟩ rfl rfl hl.1 rfl (lv_room (Nat.le_of_ble_eq_true rfl)) dX2_buyYounger_47 ⟨Nat.le_of_ble_eq_true rfl, Nat.le_of_ble_eq_true rfl⟩) hS (fun q _ h => hFc q h) hFc (fun x_6 u9 t9 H1 locs ht hvm hw_6 hB hz1 hk1 hS => ?_)
            obtain ⟨u_7, rfl⟩ : ∃ z, z = u9 := ⟨_, rfl⟩
            obtain ⟨hP1, hK1, hD1⟩ := hB
            rw [ht] at hP1
            clear hK1
            try dsimp only at hw_6
            have hpd9 : PDx (dC, dI) classes A H1 [cI aC cf 60 fc, oX2 h1 cs ca cf cl (nI n) (nI cq), cI aC ca 60 af] := jn_N (wr := [cI aC cf 60 fc]) hFc hk1 hP1 hD1 hP hD [0, 1] [2] rfl rfl (by decide) (by decide)
            have hP := hpd9.1
            have hD := hpd9.2
            clear hpd9
            generalize H1 = H at hP hS ⊢
            clear hPc hDc hFc hz1 hk1 hP1 hD1 ht hvm
            obtain ⟨hw0, hw1, hw2, hw3, hw4⟩ := hw_6
            have h9 : x_6 = nI u_7 := hw0
            subst h9
            obtain ⟨hs1, hs2, hs3⟩ := by_step (Q := Q) (a := i + 1) (y := n - 1 - i) (m := mq) (v := v) (w := u_7) hw1 (fun j q1 q2 q3 => hw4 j (by omega) (by omega) q3)
            have hcv1 : 1 ≤ cv Q (i + 1) (n - 1 - i) u_7 := by
              obtain ⟨q, q1, q2, q3⟩ := hw3
              have := cn_pos (p := fun k => decide (Q k = u_7)) (a := i + 1) (k := n - 1 - i) (j := q) (by omega) (by omega) (by simp [q3])
              unfold cv; omega
            have hcv2 := cv_le (Q := Q) (a := i + 1) (y := n - 1 - i) (v := u_7)
            refine lv_istore (lv' := [(6, Value.int (nI u_7)), (0, Value.ref h1), (1, Value.int (nI i)), (2, Value.int (nI mq)), (3, Value.int fst), (4, Value.int (nI (co Q (i + 1) (n - 1 - i) mq v))), (5, Value.int (nI (mq - cu Q (i + 1) (n - 1 - i) v))), (7, Value.int (nI r))]) hx hb dX2_buyYounger_50 hl (by decide) rfl (fun ls hl => ?_)
            refine lv_aload_n hx hb dX2_buyYounger_52 rfl (lv_at hl 1 rfl) ?_
            refine lv_iload_n hx hb dX2_buyYounger_53 rfl (lv_at hl 2 rfl) ?_
            refine lv_iload hx hb dX2_buyYounger_54 (lv_at hl 0 rfl) ?_
            refine lv_iload hx hb dX2_buyYounger_56 (lv_at hl 6 rfl) ?_
            refine lv_iload_n hx hb dX2_buyYounger_58 rfl (lv_at hl 4 rfl) ?_
            have hpd9 := pdf_N (cx := [oX2 h1 cs ca cf cl (nI n) (nI cq), cI aC ca 60 af, cI aC cf 60 fc]) hP hD hS hA [1, 2, 0] (by decide) rfl
            have hPc := hpd9.1
            have hDc := hpd9.2.1
            have hFc := hpd9.2.2
            clear hpd9
            refine va_calli (va_runV (As := [Value.int (nI i), Value.int (nI u_7), Value.int (nI (mq - cu Q (i + 1) (n - 1 - i) v)), Value.int fst]) (rest := []) ⟨hx, hb, hml, hown, hts⟩ (c_X2_buyAtLevel l dC dI aC H.size h1 cs ca cf cl n i (nI cq) Q af u_7 (mq - cu Q (i + 1) (n - 1 - i) v) fst fc (hn) (hQ) (hw2) (by omega)) ⟨(callB_of 4 hts (gG kw_589) rfl rfl rfl (hts _ (gw kw_12 rfl)) (hts _ (gw kw_586 rfl)) hd_X2_buyAtLevel ⟨Nat.le_of_ble_eq_true rfl, Nat.le_of_ble_eq_true rfl⟩), (hts _ (gw kw_588 rfl)), (hts _ (gw ks_25 rfl))⟩ ⟨fb_std, va_recv (q := (RX2, TX2, 6)) hK hPc (ci := 2) (q0 := 0) rfl rfl, pre_std hPc hK hDc hN⟩ rfl rfl hl.1 rfl (lv_room (Nat.le_of_ble_eq_true rfl)) dX2_buyYounger_59 ⟨Nat.le_of_ble_eq_true rfl, Nat.le_of_ble_eq_true rfl⟩) hS (fun q _ h => hFc q h) hFc (fun x_8 u9 t9 H1 locs ht hvm hw_8 hB hz1 hk1 hS => ?_)
            obtain ⟨u_9, rfl⟩ : ∃ z, z = u9 := ⟨_, rfl⟩
            obtain ⟨hP1, hK1, hD1⟩ := hB
            rw [ht] at hP1
            clear hK1
            try dsimp only at hw_8
            have hpd9 : PDx (dC, dI) classes A H1 [oX2 h1 cs ca cf cl (nI n) (nI cq), cI aC ca 60 af, cI aC cf 60 u_9] := jn_N (wr := []) hFc hk1 hP1 hD1 hP hD [1, 2, 0] [] rfl rfl (by decide) (by decide)
            have hP := hpd9.1
            have hD := hpd9.2
            clear hpd9
            generalize H1 = H at hP hS ⊢
            clear hPc hDc hFc hz1 hk1 hP1 hD1 ht hvm
            obtain ⟨hu0, hu1⟩ := hw_8
            have h9 : x_8 = nI (min (cv Q (i + 1) (n - 1 - i) u_7) (mq - cu Q (i + 1) (n - 1 - i) v)) := hu0
            subst h9
            refine lv_istore (lv' := [(8, Value.int (nI (min (cv Q (i + 1) (n - 1 - i) u_7) (mq - cu Q (i + 1) (n - 1 - i) v)))), (6, Value.int (nI u_7)), (0, Value.ref h1), (1, Value.int (nI i)), (2, Value.int (nI mq)), (3, Value.int fst), (4, Value.int (nI (co Q (i + 1) (n - 1 - i) mq v))), (5, Value.int (nI (mq - cu Q (i + 1) (n - 1 - i) v))), (7, Value.int (nI r))]) hx hb dX2_buyYounger_62 hl (by decide) rfl (fun ls hl => ?_)
            refine lv_iload hx hb dX2_buyYounger_64 (lv_at hl 6 rfl) ?_
            refine lv_iload hx hb dX2_buyYounger_66 (lv_at hl 0 rfl) ?_
            refine lv_iload hx hb dX2_buyYounger_68 (lv_at hl 1 rfl) ?_
            refine lv_imul hx hb dX2_buyYounger_70 ?_
            refine lv_topi (fun x_10 e_10 => ?_)
            have h9 : x_10 = nI ((min (cv Q (i + 1) (n - 1 - i) u_7) (mq - cu Q (i + 1) (n - 1 - i) v)) * u_7) := by rw [e_10, pk_mul]
            subst h9
            refine lv_iadd hx hb dX2_buyYounger_71 ?_
            refine lv_topi (fun x_11 e_11 => ?_)
            have h9 : x_11 = nI (co Q (i + 1) (n - 1 - i) mq u_7) := by rw [e_11, nI_add, hs2, Nat.mul_comm]
            subst h9
            refine lv_istore (lv' := [(4, Value.int (nI (co Q (i + 1) (n - 1 - i) mq u_7))), (8, Value.int (nI (min (cv Q (i + 1) (n - 1 - i) u_7) (mq - cu Q (i + 1) (n - 1 - i) v)))), (6, Value.int (nI u_7)), (0, Value.ref h1), (1, Value.int (nI i)), (2, Value.int (nI mq)), (3, Value.int fst), (5, Value.int (nI (mq - cu Q (i + 1) (n - 1 - i) v))), (7, Value.int (nI r))]) hx hb dX2_buyYounger_72 hl (by decide) rfl (fun ls hl => ?_)
            refine lv_iload hx hb dX2_buyYounger_74 (lv_at hl 7 rfl) ?_
            refine lv_iload hx hb dX2_buyYounger_76 (lv_at hl 1 rfl) ?_
            refine lv_isub hx hb dX2_buyYounger_78 ?_
            refine lv_topi (fun x_12 e_12 => ?_)
            have h9 : x_12 = nI (mq - cu Q (i + 1) (n - 1 - i) u_7) := by rw [e_12, pk_sub (by omega), hs1, show (mq - cu Q (i + 1) (n - 1 - i) v) - (min (cv Q (i + 1) (n - 1 - i) u_7) (mq - cu Q (i + 1) (n - 1 - i) v)) = mq - (cu Q (i + 1) (n - 1 - i) v + cv Q (i + 1) (n - 1 - i) u_7) by omega]
            subst h9
            refine lv_istore (lv' := [(5, Value.int (nI (mq - cu Q (i + 1) (n - 1 - i) u_7))), (4, Value.int (nI (co Q (i + 1) (n - 1 - i) mq u_7))), (8, Value.int (nI (min (cv Q (i + 1) (n - 1 - i) u_7) (mq - cu Q (i + 1) (n - 1 - i) v)))), (6, Value.int (nI u_7)), (0, Value.ref h1), (1, Value.int (nI i)), (2, Value.int (nI mq)), (3, Value.int fst), (7, Value.int (nI r))]) hx hb dX2_buyYounger_79 hl (by decide) rfl (fun ls hl => ?_)
            obtain ⟨x_13, e_13⟩ : ∃ y : Int32, y = (nI r) + 1 := ⟨_, rfl⟩
            refine lv_iinc (v := x_13) (lv' := [(7, Value.int x_13), (5, Value.int (nI (mq - cu Q (i + 1) (n - 1 - i) u_7))), (4, Value.int (nI (co Q (i + 1) (n - 1 - i) mq u_7))), (8, Value.int (nI (min (cv Q (i + 1) (n - 1 - i) u_7) (mq - cu Q (i + 1) (n - 1 - i) v)))), (6, Value.int (nI u_7)), (0, Value.ref h1), (1, Value.int (nI i)), (2, Value.int (nI mq)), (3, Value.int fst)]) hx hb dX2_buyYounger_81 hl (k := 8) rfl (by rw [e_13]; rfl) (by decide) rfl (fun ls hl => ?_)
            have h9 : x_13 = nI (r + 1) := by rw [e_13, nI_1]
            subst h9
            have hb1 : r + 1 + (mq - cu Q (i + 1) (n - 1 - i) u_7) ≤ mq := by omega
            have hb2 : ∀ u, u < u_7 → stp Q (i + 1) (n - 1 - i) mq cq u = false := fun u hu => by
              by_cases h : u < v
              · exact hst u h
              · obtain ⟨h1, h2⟩ := hs3 u (by omega) hu
                exact stp_f.mpr ⟨by omega, by omega⟩
            have hb3 : ∀ q, q < 60 → u_9 q = nI (OFm fst Q (i + 1) (n - 1 - i) mq u_7 q) := fun q hq => by
              rw [hu1 q hq, OFm_step (by omega) hw1 (fun j q1 q2 q3 => hw4 j (by omega) (by omega) q3) q, hfc q hq]
              split <;> rfl
            have hb4 : co Q (i + 1) (n - 1 - i) mq u_7 ≤ 70000 := by
              rw [hs2]
              have := mul_le_60 (w := u_7) (t := min (cv Q (i + 1) (n - 1 - i) u_7) (mq - cu Q (i + 1) (n - 1 - i) v)) (by omega) (by omega)
              omega
            refine lv_goto (tgt := 20) hx hb dX2_buyYounger_84 (by decide) ?_
            exact ih_20 u_7 (r + 1) u_9 (by omega) (hw2) (hb1) (hb2) (hb3) (hb4) _ _ _ (hP.sub [0, 1, 2] rfl) (hD.sub [0, 1, 2] (by decide) rfl) hS (lv_sub hl [5, 6, 7, 8, 2, 1, 4, 0] rfl)
  exact lp_20 ((mq - 0) + 1) 0 0 u_2 (Nat.lt_succ_self _) (by omega) (by omega) (fun u h => absurd h (Nat.not_lt_zero u)) (fun q hq => by rw [OFm_0]; exact hfill q hq) (by show 0 ≤ 70000; omega) _ _ _ (hP.sub [0, 1, 2] rfl) (hD.sub [0, 1, 2] (by decide) rfl) hS (lv_sub hl [4, 5, 6, 7, 3, 2, 1, 0] rfl)

set_option maxHeartbeats 1000000 in
set_option maxRecDepth 100000 in
/-- X2_solve -/
theorem c_X2_solve (l : Launch) (dC : Nat → ClassId) (dI : Nat → Nat → Nat) (aC : Nat → ClassId) (sz : Nat) (h1 : Nat) (cs : Nat) (ca : Nat) (cf : Nat) (cl : Nat) (es : Nat) (n : Nat) (cq : Nat) (z1 : Int32) (z2 : Int32) (sf : Nat → Int32) (af : Nat → Int32) (of : Nat → Int32) (stf : Nat → Int32) (hn : 1 ≤ n ∧ n ≤ 60) (hc : cq ≤ 99) : Met l yX2_solve (wW yX2_solve cX2_solve 8 (none : Option FieldType)) ({ frames := 3, cells := 0, slots := 0, locals := 65 } : Room) (va_Pc [Value.ref h1, Value.int (nI n), Value.int (nI cq), Value.ref es] (fun U => U.heap.size = sz ∧ va_P (dC, dI) classes [oX2 h1 cs ca cf cl z1 z2, cI aC cs 60 sf, cI aC ca 60 af, cI aC cf 60 of, cO cl 0 [], cI aC es 5 stf] U.heap ∧ va_K (dC, dI) classes (TY aC) U ∧ va_D (fun _ => True) [oX2 h1 cs ca cf cl z1 z2, cI aC cs 60 sf, cI aC ca 60 af, cI aC cf 60 of, cO cl 0 [], cI aC es 5 stf] ∧ NX U)) (va_Qv (fun (u : (Nat → Int32) × (Nat → Int32) × (Nat → Int32)) => match u with | (sg, ag, og) => ∀ j, j < n → sg j = iI (FSm (stf 1) (stf 2) (stf 3) cq n n j)) (fun (u : (Nat → Int32) × (Nat → Int32) × (Nat → Int32)) (t : State) => match u with | (sg, ag, og) => va_P (dC, dI) classes [oX2 h1 cs ca cf cl (nI n) (nI cq), cI aC cs 60 sg, cI aC ca 60 ag, cI aC cf 60 og, cO cl 0 [], cI aC es 5 stf] t.heap ∧ va_K (dC, dI) classes (TY aC) t ∧ va_D (va_A [oX2 h1 cs ca cf cl z1 z2, cI aC cs 60 sf, cI aC ca 60 af, cI aC cf 60 of, cO cl 0 [], cI aC es 5 stf] sz) [oX2 h1 cs ca cf cl (nI n) (nI cq), cI aC cs 60 sg, cI aC ca 60 ag, cI aC cf 60 og, cO cl 0 [], cI aC es 5 stf]) (va_A [oX2 h1 cs ca cf cl z1 z2, cI aC cs 60 sf, cI aC ca 60 af, cI aC cf 60 of, cO cl 0 [], cI aC es 5 stf] sz)) 0 0 (va_A [oX2 h1 cs ca cf cl z1 z2, cI aC cs 60 sf, cI aC ca 60 af, cI aC cf 60 of, cO cl 0 [], cI aC es 5 stf] sz) := by
  refine Met.ofW (cc := cX2_solve) (maxL := 8) (ret := (none : Option FieldType)) (by decide) rfl ?_
  intro p e s m args below meth c s₁ B hml hv
  obtain ⟨rfl, hsz, hP, hK, hD0, hN⟩ := hv
  have hx := B.exec
  have hb := B.bytes
  have hr := B.returns
  have hts0 := atoms_spec (ws := (wW yX2_solve cX2_solve 8 (none : Option FieldType))) B.pre
  have hts : ∀ w9 ∈ lw_G, w9.before ([Value.ref h1, Value.int (nI n), Value.int (nI cq), Value.ref es] : List Value).toArray s = true := fun w9 h9 => hts0 w9 (List.mem_cons_of_mem _ h9)
  have hown : s.vm.findClass RX2 = some m.cls := findClass_of_methodNamed (x := yX2_solve) B.named
  have hlocks := B.notSynchronized
  subst hsz
  have hD := hD0.self (sz := s.heap.size)
  generalize hAe : va_A [oX2 h1 cs ca cf cl z1 z2, cI aC cs 60 sf, cI aC ca 60 af, cI aC cf 60 of, cO cl 0 [], cI aC es 5 stf] s.heap.size = A at hD ⊢
  have hA : ∀ q : Nat, s.heap.size ≤ q → A q := fun q h => by rw [← hAe]; exact Or.inr h
  obtain ⟨H, hHe⟩ : ∃ H : Heap, H = s.heap := ⟨_, rfl⟩
  have hS : va_S A s.heap H [] := by rw [hHe]; exact va_S.rf
  have hP : va_P (dC, dI) classes [oX2 h1 cs ca cf cl z1 z2, cI aC cs 60 sf, cI aC ca 60 af, cI aC cf 60 of, cO cl 0 [], cI aC es 5 stf] H := by rw [hHe]; exact hP
  have hl := lv_entry ([Value.ref h1, Value.int (nI n), Value.int (nI cq), Value.ref es]) (n := 8) (Nat.le_of_ble_eq_true rfl)
  rw [lg_entry_eq]
  generalize (lg_sl ([Value.ref h1, Value.int (nI n), Value.int (nI cq), Value.ref es]) ++ List.replicate (8 - (lg_sl ([Value.ref h1, Value.int (nI n), Value.int (nI cq), Value.ref es])).length) Slot.unset).toArray = ls at hl ⊢
  have hl : lv_has ls 8 [(0, Value.ref h1), (1, Value.int (nI n)), (2, Value.int (nI cq)), (3, Value.ref es)] := hl
  rw [← hHe]
  refine lv_aload_n hx hb dX2_solve_0 rfl (lv_at hl 0 rfl) ?_
  refine lv_iload_n hx hb dX2_solve_1 rfl (lv_at hl 1 rfl) ?_
  refine lv_bipush (v := 60) hx hb dX2_solve_2 (by decide) ?_
  refine va_mmin hx hb (by rw [hml]; exact hl.1.symm) hown (hts _ (gw kw_565 rfl)) (hts _ (gw kw_566 rfl)) (hts _ (gw kw_14 rfl)) (hts _ (gw kw_567 rfl)) (Nat.le_of_ble_eq_true rfl) (Nat.le_of_ble_eq_true rfl) (Nat.zero_le _) (Nat.zero_le _) dX2_solve_4 ?_
  refine lv_topi (fun x_1 e_1 => ?_)
  have h9 : x_1 = nI n := by rw [e_1, if_neg (fun q => by have := (nI_ltI (a := 60) (b := n) (by omega) (by omega)).mp q; omega)]
  subst h9
  refine va_put (D := (dC, dI)) (ci := 2) (v := Value.int (nI n)) (ty := .int) (C := RX2) (T := TX2) (N := 6) hx hb hts inX2 tyX2 tyX2_ok nmX2 hown hK hP hD hS 0 rfl rfl 4 (by decide) (hts _ (gw kw_211 rfl)) (fun _ h9 => h9) rfl (by decide +kernel) rfl rfl (Nat.le_of_ble_eq_true rfl) dX2_solve_7 (fun H locs hP hD hS => ?_)
  have hpd9 : PDx (dC, dI) classes A H [oX2 h1 cs ca cf cl (nI n) z2, cI aC cs 60 sf, cI aC ca 60 af, cI aC cf 60 of, cO cl 0 [], cI aC es 5 stf] := ⟨hP, hD⟩
  have hP := hpd9.1
  have hD := hpd9.2
  clear hpd9
  refine lv_aload_n hx hb dX2_solve_10 rfl (lv_at hl 0 rfl) ?_
  refine lv_iload_n hx hb dX2_solve_11 rfl (lv_at hl 2 rfl) ?_
  refine va_put (D := (dC, dI)) (ci := 2) (v := Value.int (nI cq)) (ty := .int) (C := RX2) (T := TX2) (N := 6) hx hb hts inX2 tyX2 tyX2_ok nmX2 hown hK hP hD hS 0 rfl rfl 5 (by decide) (hts _ (gw kw_212 rfl)) (fun _ h9 => h9) rfl (by decide +kernel) rfl rfl (Nat.le_of_ble_eq_true rfl) dX2_solve_12 (fun H locs hP hD hS => ?_)
  have hpd9 : PDx (dC, dI) classes A H [oX2 h1 cs ca cf cl (nI n) (nI cq), cI aC cs 60 sf, cI aC ca 60 af, cI aC cf 60 of, cO cl 0 [], cI aC es 5 stf] := ⟨hP, hD⟩
  have hP := hpd9.1
  have hD := hpd9.2
  clear hpd9
  refine lv_aload_n hx hb dX2_solve_15 rfl (lv_at hl 0 rfl) ?_
  refine va_get (D := (dC, dI)) (ci := 2) (v := Value.int (nI n)) (C := RX2) (T := TX2) (N := 6) hx hb hts inX2 hown hK hP 0 rfl rfl 4 (by decide) (hts _ (gw kw_211 rfl)) (fun _ h9 => h9) rfl dX2_solve_16 ?_
  refine lv_iconst (v := 1) hx hb dX2_solve_19 (by decide) ?_
  refine lv_isub hx hb dX2_solve_20 ?_
  refine lv_topi (fun x_2 e_2 => ?_)
  have h9 : x_2 = nI (n - 1) := by rw [e_2]; exact pk_sub (a := n) (b := 1) (by omega)
  subst h9
  refine lv_istore (lv' := [(4, Value.int (nI (n - 1))), (0, Value.ref h1), (1, Value.int (nI n)), (2, Value.int (nI cq)), (3, Value.ref es)]) hx hb dX2_solve_21 hl (by decide) rfl (fun ls hl => ?_)
  have lp_23 : ∀ (fu : Nat) (k : Nat) (x4 : Int32) (sc : Nat → Int32) (ac : Nat → Int32) (oc : Nat → Int32) (hfu : k < fu) (hk : k ≤ n) (hx4 : x4 = iI ((k : Int) - 1)) (hsc : ∀ j, k ≤ j → j < n → sc j = iI (FSm (stf 1) (stf 2) (stf 3) cq n (n - k) j)) (H : Heap) (locs : List Loc) (ls : Array Slot), va_P (dC, dI) classes [oX2 h1 cs ca cf cl (nI n) (nI cq), cI aC cs 60 sc, cI aC ca 60 ac, cI aC cf 60 oc, cO cl 0 [], cI aC es 5 stf] H → va_D A [oX2 h1 cs ca cf cl (nI n) (nI cq), cI aC cs 60 sc, cI aC ca 60 ac, cI aC cf 60 oc, cO cl 0 [], cI aC es 5 stf] → va_S A s.heap H locs → lv_has ls 8 [(0, Value.ref h1), (1, Value.int (nI n)), (2, Value.int (nI cq)), (3, Value.ref es), (4, Value.int x4)] → W p l e (headSpec (wW yX2_solve cX2_solve 8 (none : Option FieldType)) ({ frames := 3, cells := 0, slots := 0, locals := 65 } : Room)).room s m ([Value.ref h1, Value.int (nI n), Value.int (nI cq), Value.ref es] : List Value).toArray below meth c H locs 0 0 (MQ below (va_Qv (fun (u : (Nat → Int32) × (Nat → Int32) × (Nat → Int32)) => match u with | (sg, ag, og) => ∀ j, j < n → sg j = iI (FSm (stf 1) (stf 2) (stf 3) cq n n j)) (fun (u : (Nat → Int32) × (Nat → Int32) × (Nat → Int32)) (t : State) => match u with | (sg, ag, og) => va_P (dC, dI) classes [oX2 h1 cs ca cf cl (nI n) (nI cq), cI aC cs 60 sg, cI aC ca 60 ag, cI aC cf 60 og, cO cl 0 [], cI aC es 5 stf] t.heap ∧ va_K (dC, dI) classes (TY aC) t ∧ va_D A [oX2 h1 cs ca cf cl (nI n) (nI cq), cI aC cs 60 sg, cI aC ca 60 ag, cI aC cf 60 og, cO cl 0 [], cI aC es 5 stf]) A) ([Value.ref h1, Value.int (nI n), Value.int (nI cq), Value.ref es] : List Value).toArray s 0 0 A) (F0 m 23 ls []) := by
    intro fu
    induction fu with
    | zero => intro k x4 sc ac oc hfu; exact absurd hfu (Nat.not_lt_zero _)
    | succ fu ih_23 =>
      intro k x4 sc ac oc hfu hk hx4 hsc H locs ls hP hD hS hl
      refine lv_iload hx hb dX2_solve_23 (lv_at hl 4 rfl) ?_
      refine lv_if_lt (tgt := 126) hx hb dX2_solve_25 (by decide) (fun c_3 => ?_) (fun c_3 => ?_)
      · have hk0 : k = 0 := by
          rcases Nat.eq_zero_or_pos k with q | q
          · exact q
          · exfalso
            rw [hx4, ← iI_0, iI_lt (by unfold sm; omega) sm0] at c_3
            omega
        have hpd9 := pd_N (cx := [oX2 h1 cs ca cf cl (nI n) (nI cq), cI aC cs 60 sc, cI aC ca 60 ac, cI aC cf 60 oc, cO cl 0 [], cI aC es 5 stf]) hP hD [0, 1, 2, 3, 4, 5] (by decide) rfl
        have hP9 := hpd9.1
        have hD9 := hpd9.2
        refine W.widen (k := 0) (n := 0) (by omega) (by omega) ?_
        exact W.vret hx hb hr (fun t ht hW => ⟨⟨(sc, ac, oc), rfl, fun j hj => by have := hsc j (by omega) hj; rw [hk0, Nat.sub_zero] at this; exact this, by rw [ht]; exact hP9, va_K.moved hW.alike hK, hD9⟩, hS.F ht⟩) hS.2.2 dX2_solve_126
      · have hk1 : 1 ≤ k := by
          rcases Nat.eq_zero_or_pos k with q | q
          · subst q; exact absurd (by rw [hx4]; decide) c_3
          · exact q
        obtain ⟨i, hki⟩ : ∃ i, k = i + 1 := ⟨k - 1, by omega⟩
        subst hki
        have h9 : x4 = nI i := by rw [hx4, nI_iI]; congr 1; omega
        subst h9
        refine lv_aload_n hx hb dX2_solve_28 rfl (lv_at hl 0 rfl) ?_
        refine lv_iload hx hb dX2_solve_29 (lv_at hl 4 rfl) ?_
        refine lv_aload_n hx hb dX2_solve_31 rfl (lv_at hl 3 rfl) ?_
        refine lv_iconst (v := 2) hx hb dX2_solve_32 (by decide) ?_
        have h_4 : vp_in 2 5 := by unfold vp_in; decide
        refine va_iald hx hb hK hP 5 0 rfl rfl h_4 dX2_solve_33 ?_
        refine lv_topi (fun x_5 e_5 => ?_)
        have h9 : x_5 = (stf 2) := by rw [e_5]; rfl
        subst h9
        have hpd9 := pdf_N (cx := [oX2 h1 cs ca cf cl (nI n) (nI cq), cI aC cs 60 sc, cI aC ca 60 ac, cO cl 0 []]) hP hD hS hA [0, 1, 2, 4] (by decide) rfl
        have hPc := hpd9.1
        have hDc := hpd9.2.1
        have hFc := hpd9.2.2
        clear hpd9
        refine va_calli (va_runV (As := [Value.int (nI i), Value.int (stf 2)]) (rest := []) ⟨hx, hb, hml, hown, hts⟩ (c_X2_askYounger l dC dI aC H.size h1 cs ca cf cl n i (nI cq) (stf 2) (FSm (stf 1) (stf 2) (stf 3) cq n (n - (i + 1))) sc ac (by omega) (fun j q1 q2 => ⟨hsc j (by omega) q2, FSm_rng hc _ (by omega) j (by omega) q2⟩)) ⟨(callB_of 2 hts (gG kw_571) rfl rfl rfl (hts _ (gw kw_12 rfl)) (hts _ (gw kw_568 rfl)) hd_X2_askYounger ⟨Nat.le_of_ble_eq_true rfl, Nat.le_of_ble_eq_true rfl⟩), (hts _ (gw kw_570 rfl)), (hts _ (gw ks_22 rfl))⟩ ⟨fb_std, va_recv (q := (RX2, TX2, 6)) hK hPc (ci := 2) (q0 := 0) rfl rfl, pre_std hPc hK hDc hN⟩ rfl rfl hl.1 rfl (lv_room (Nat.le_of_ble_eq_true rfl)) dX2_solve_34 ⟨Nat.le_of_ble_eq_true rfl, Nat.le_of_ble_eq_true rfl⟩) hS (fun q _ h => hFc q h) hFc (fun x_6 u9 t9 H1 locs ht hvm hw_6 hB hz1 hk1 hS => ?_)
        obtain ⟨u_7, rfl⟩ : ∃ z, z = u9 := ⟨_, rfl⟩
        obtain ⟨hP1, hK1, hD1⟩ := hB
        rw [ht] at hP1
        clear hK1
        try dsimp only at hw_6
        have hpd9 : PDx (dC, dI) classes A H1 [cI aC cf 60 oc, cI aC es 5 stf, oX2 h1 cs ca cf cl (nI n) (nI cq), cI aC cs 60 sc, cI aC ca 60 u_7, cO cl 0 []] := jn_N (wr := [cI aC cf 60 oc, cI aC es 5 stf]) hFc hk1 hP1 hD1 hP hD [0, 1, 2, 4] [3, 5] rfl rfl (by decide) (by decide)
        have hP := hpd9.1
        have hD := hpd9.2
        clear hpd9
        generalize H1 = H at hP hS ⊢
        clear hPc hDc hFc hz1 hk1 hP1 hD1 ht hvm
        obtain ⟨hv0, hag⟩ := hw_6
        have hcvle := cv_le (Q := (fun j => ask (stf 2) (FSm (stf 1) (stf 2) (stf 3) cq n (n - (i + 1)) j))) (a := i + 1) (y := n - 1 - i) (v := 0)
        have hQQ : ∀ j, i < j → j < n → u_7 j = nI ((fun j => ask (stf 2) (FSm (stf 1) (stf 2) (stf 3) cq n (n - (i + 1)) j)) j) ∧ (fun j => ask (stf 2) (FSm (stf 1) (stf 2) (stf 3) cq n (n - (i + 1)) j)) j ≤ 100 := fun j q1 q2 => ⟨hag j q1 q2, ask_le (FSm_rng hc _ (by omega) j (by omega) q2).2⟩
        have h9 : x_6 = nI (cv (fun j => ask (stf 2) (FSm (stf 1) (stf 2) (stf 3) cq n (n - (i + 1)) j)) (i + 1) (n - 1 - i) 0) := hv0
        subst h9
        refine lv_istore (lv' := [(5, Value.int (nI (cv (fun j => ask (stf 2) (FSm (stf 1) (stf 2) (stf 3) cq n (n - (i + 1)) j)) (i + 1) (n - 1 - i) 0))), (0, Value.ref h1), (1, Value.int (nI n)), (2, Value.int (nI cq)), (3, Value.ref es), (4, Value.int (nI i))]) hx hb dX2_solve_37 hl (by decide) rfl (fun ls hl => ?_)
        refine lv_iconst (v := 1) hx hb dX2_solve_39 (by decide) ?_
        refine lv_iload hx hb dX2_solve_40 (lv_at hl 0 rfl) ?_
        refine lv_iadd hx hb dX2_solve_42 ?_
        refine lv_topi (fun x_8 e_8 => ?_)
        have h9 : x_8 = nI (1 + (cv (fun j => ask (stf 2) (FSm (stf 1) (stf 2) (stf 3) cq n (n - (i + 1)) j)) (i + 1) (n - 1 - i) 0)) := by rw [e_8]; exact nI_add 1 _
        subst h9
        refine lv_aload_n hx hb dX2_solve_43 rfl (lv_at hl 1 rfl) ?_
        refine va_get (D := (dC, dI)) (ci := 2) (v := Value.int (nI n)) (C := RX2) (T := TX2) (N := 6) hx hb hts inX2 hown hK hP 2 rfl rfl 4 (by decide) (hts _ (gw kw_211 rfl)) (fun _ h9 => h9) rfl dX2_solve_44 ?_
        refine lv_iload hx hb dX2_solve_47 (lv_at hl 5 rfl) ?_
        refine lv_isub hx hb dX2_solve_49 ?_
        refine lv_topi (fun x_9 e_9 => ?_)
        have h9 : x_9 = nI (n - i) := by rw [e_9]; exact pk_sub (by omega)
        subst h9
        refine lv_aload_n hx hb dX2_solve_50 rfl (lv_at hl 4 rfl) ?_
        refine lv_iconst (v := 1) hx hb dX2_solve_51 (by decide) ?_
        have h_10 : vp_in 1 5 := by unfold vp_in; decide
        refine va_iald hx hb hK hP 1 0 rfl rfl h_10 dX2_solve_52 ?_
        refine lv_topi (fun x_11 e_11 => ?_)
        have h9 : x_11 = (stf 1) := by rw [e_11]; rfl
        subst h9
        have hpd9 := pdf_N (cx := []) hP hD hS hA [] (by decide) rfl
        have hPc := hpd9.1
        have hDc := hpd9.2.1
        have hFc := hpd9.2.2
        clear hpd9
        refine va_calli (va_runS (As := [Value.int (nI (1 + (cv (fun j => ask (stf 2) (FSm (stf 1) (stf 2) (stf 3) cq n (n - (i + 1)) j)) (i + 1) (n - 1 - i) 0))), Value.int (nI (n - i)), Value.int (stf 1)]) (rest := []) ⟨hx, hb, hml, hown, hts⟩ (c_X2_votesLacking l dC dI aC H.size (1 + (cv (fun j => ask (stf 2) (FSm (stf 1) (stf 2) (stf 3) cq n (n - (i + 1)) j)) (i + 1) (n - 1 - i) 0)) (n - i) (stf 1) (by omega) (by omega)) ⟨(callB_of 3 hts (gG kw_575) rfl rfl rfl (hts _ (gw kw_12 rfl)) (hts _ (gw kw_573 rfl)) hd_X2_votesLacking ⟨Nat.le_of_ble_eq_true rfl, Nat.le_of_ble_eq_true rfl⟩), (hts _ (gw kw_574 rfl))⟩ ⟨fb_std, pre_std hPc hK hDc hN⟩ rfl rfl hl.1 rfl (lv_room (Nat.le_of_ble_eq_true rfl)) dX2_solve_53 ⟨Nat.le_of_ble_eq_true rfl, Nat.le_of_ble_eq_true rfl⟩) hS (fun q _ h => hFc q h) hFc (fun x_12 u9 t9 H1 locs ht hvm hw_12 hB hz1 hk1 hS => ?_)
        obtain ⟨hP1, hK1, hD1⟩ := hB
        rw [ht] at hP1
        clear hK1
        try dsimp only at hw_12
        have hpd9 : PDx (dC, dI) classes A H1 [cI aC cf 60 oc, cI aC es 5 stf, oX2 h1 cs ca cf cl (nI n) (nI cq), cI aC cs 60 sc, cI aC ca 60 u_7, cO cl 0 []] := jn_N (wr := [cI aC cf 60 oc, cI aC es 5 stf, oX2 h1 cs ca cf cl (nI n) (nI cq), cI aC cs 60 sc, cI aC ca 60 u_7, cO cl 0 []]) hFc hk1 hP1 hD1 hP hD [] [0, 1, 2, 3, 4, 5] rfl rfl (by decide) (by decide)
        have hP := hpd9.1
        have hD := hpd9.2
        clear hpd9
        generalize H1 = H at hP hS ⊢
        clear hPc hDc hFc hz1 hk1 hP1 hD1 ht hvm
        have h9 : x_12 = nI (mm (stf 1) (fun j => ask (stf 2) (FSm (stf 1) (stf 2) (stf 3) cq n (n - (i + 1)) j)) n i) := hw_12
        subst h9
        refine lv_istore (lv' := [(6, Value.int (nI (mm (stf 1) (fun j => ask (stf 2) (FSm (stf 1) (stf 2) (stf 3) cq n (n - (i + 1)) j)) n i))), (5, Value.int (nI (cv (fun j => ask (stf 2) (FSm (stf 1) (stf 2) (stf 3) cq n (n - (i + 1)) j)) (i + 1) (n - 1 - i) 0))), (0, Value.ref h1), (1, Value.int (nI n)), (2, Value.int (nI cq)), (3, Value.ref es), (4, Value.int (nI i))]) hx hb dX2_solve_56 hl (by decide) rfl (fun ls hl => ?_)
        refine lv_aload_n hx hb dX2_solve_58 rfl (lv_at hl 2 rfl) ?_
        refine lv_iload hx hb dX2_solve_59 (lv_at hl 6 rfl) ?_
        refine lv_iload hx hb dX2_solve_61 (lv_at hl 0 rfl) ?_
        refine lv_aload_n hx hb dX2_solve_63 rfl (lv_at hl 5 rfl) ?_
        refine lv_iconst (v := 3) hx hb dX2_solve_64 (by decide) ?_
        have h_13 : vp_in 3 5 := by unfold vp_in; decide
        refine va_iald hx hb hK hP 1 0 rfl rfl h_13 dX2_solve_65 ?_
        refine lv_topi (fun x_14 e_14 => ?_)
        have h9 : x_14 = (stf 3) := by rw [e_14]; rfl
        subst h9
        have hpd9 := pdf_N (cx := [oX2 h1 cs ca cf cl (nI n) (nI cq), cI aC ca 60 u_7, cI aC cf 60 oc]) hP hD hS hA [2, 4, 0] (by decide) rfl
        have hPc := hpd9.1
        have hDc := hpd9.2.1
        have hFc := hpd9.2.2
        clear hpd9
        refine va_calli (va_runV (As := [Value.int (nI i), Value.int (nI (mm (stf 1) (fun j => ask (stf 2) (FSm (stf 1) (stf 2) (stf 3) cq n (n - (i + 1)) j)) n i)), Value.int (stf 3)]) (rest := []) ⟨hx, hb, hml, hown, hts⟩ (c_X2_buyYounger l dC dI aC H.size h1 cs ca cf cl n i (fun j => ask (stf 2) (FSm (stf 1) (stf 2) (stf 3) cq n (n - (i + 1)) j)) u_7 cq (mm (stf 1) (fun j => ask (stf 2) (FSm (stf 1) (stf 2) (stf 3) cq n (n - (i + 1)) j)) n i) (stf 3) oc (by omega) (hQQ) (mm_le (by omega) (fun j q1 q2 => (hQQ j q1 q2).2)) (hc)) ⟨(callB_of 3 hts (gG kw_580) rfl rfl rfl (hts _ (gw kw_12 rfl)) (hts _ (gw kw_577 rfl)) hd_X2_buyYounger ⟨Nat.le_of_ble_eq_true rfl, Nat.le_of_ble_eq_true rfl⟩), (hts _ (gw kw_579 rfl)), (hts _ (gw ks_23 rfl))⟩ ⟨fb_std, va_recv (q := (RX2, TX2, 6)) hK hPc (ci := 2) (q0 := 0) rfl rfl, pre_std hPc hK hDc hN⟩ rfl rfl hl.1 rfl (lv_room (Nat.le_of_ble_eq_true rfl)) dX2_solve_66 ⟨Nat.le_of_ble_eq_true rfl, Nat.le_of_ble_eq_true rfl⟩) hS (fun q _ h => hFc q h) hFc (fun x_15 u9 t9 H1 locs ht hvm hw_15 hB hz1 hk1 hS => ?_)
        obtain ⟨u_16, u_17⟩ := u9
        obtain ⟨hP1, hK1, hD1⟩ := hB
        rw [ht] at hP1
        clear hK1
        try dsimp only at hw_15
        have hpd9 : PDx (dC, dI) classes A H1 [cI aC es 5 stf, cI aC cs 60 sc, cO cl 0 [], oX2 h1 cs ca cf cl (nI n) (nI cq), cI aC ca 60 u_7, cI aC cf 60 u_16] := jn_N (wr := [cI aC es 5 stf, cI aC cs 60 sc, cO cl 0 []]) hFc hk1 hP1 hD1 hP hD [2, 4, 0] [1, 3, 5] rfl rfl (by decide) (by decide)
        have hP := hpd9.1
        have hD := hpd9.2
        clear hpd9
        generalize H1 = H at hP hS ⊢
        clear hPc hDc hFc hz1 hk1 hP1 hD1 ht hvm
        obtain ⟨hy0, hy1, hy2, hy3, hy4⟩ := hw_15
        have hvv := vv_eq (law := stf 1) (Q := (fun j => ask (stf 2) (FSm (stf 1) (stf 2) (stf 3) cq n (n - (i + 1)) j))) hy1 hy2 hy3
        have hccl := cc1_le (by omega) hvv hy2 hy3 hc
        subst hvv
        have h9 : x_15 = nI (cc1 (stf 1) (fun j => ask (stf 2) (FSm (stf 1) (stf 2) (stf 3) cq n (n - (i + 1)) j)) cq n i) := hy0
        subst h9
        refine lv_istore (lv' := [(7, Value.int (nI (cc1 (stf 1) (fun j => ask (stf 2) (FSm (stf 1) (stf 2) (stf 3) cq n (n - (i + 1)) j)) cq n i))), (6, Value.int (nI (mm (stf 1) (fun j => ask (stf 2) (FSm (stf 1) (stf 2) (stf 3) cq n (n - (i + 1)) j)) n i))), (5, Value.int (nI (cv (fun j => ask (stf 2) (FSm (stf 1) (stf 2) (stf 3) cq n (n - (i + 1)) j)) (i + 1) (n - 1 - i) 0))), (0, Value.ref h1), (1, Value.int (nI n)), (2, Value.int (nI cq)), (3, Value.ref es), (4, Value.int (nI i))]) hx hb dX2_solve_69 hl (by decide) rfl (fun ls hl => ?_)
        refine lv_iload hx hb dX2_solve_71 (lv_at hl 0 rfl) ?_
        refine lv_aload_n hx hb dX2_solve_73 rfl (lv_at hl 3 rfl) ?_
        refine va_get (D := (dC, dI)) (ci := 2) (v := Value.int (nI cq)) (C := RX2) (T := TX2) (N := 6) hx hb hts inX2 hown hK hP 3 rfl rfl 5 (by decide) (hts _ (gw kw_212 rfl)) (fun _ h9 => h9) rfl dX2_solve_74 ?_
        refine lv_icmp_gt (tgt := 112) hx hb dX2_solve_77 (by decide) (fun c_18 => ?_) (fun c_18 => ?_)
        · refine lv_aload_n hx hb dX2_solve_112 rfl (lv_at hl 3 rfl) ?_
          refine va_get (D := (dC, dI)) (ci := 2) (v := Value.ref cs) (C := RX2) (T := TX2) (N := 6) hx hb hts inX2 hown hK hP 3 rfl rfl 0 (by decide) (hts _ (gw kw_206 rfl)) (fun _ h9 => h9) rfl dX2_solve_113 ?_
          refine lv_iload hx hb dX2_solve_116 (lv_at hl 7 rfl) ?_
          refine lv_iconst (v := -1) hx hb dX2_solve_118 (by decide) ?_
          have h_19 : vp_in (nI i) 60 := vp_in_nI (by omega) (by omega)
          refine va_iast hx hb hK hP hD hS 1 0 rfl rfl h_19 dX2_solve_119 (fun H locs hP hD hS => ?_)
          obtain ⟨f_20, e_f_20⟩ : ∃ y : Nat → Int32, y = upd sc (nI i : Int32).toNatClampNeg (-1) := ⟨_, rfl⟩
          have hpd9 : PDx (dC, dI) classes A H [cI aC es 5 stf, cI aC cs 60 f_20, cO cl 0 [], oX2 h1 cs ca cf cl (nI n) (nI cq), cI aC ca 60 u_7, cI aC cf 60 u_16] := by rw [e_f_20]; exact ⟨hP, hD⟩
          have hP := hpd9.1
          have hD := hpd9.2
          clear hpd9
          have hcc : ¬ (cc1 (stf 1) (fun j => ask (stf 2) (FSm (stf 1) (stf 2) (stf 3) cq n (n - (i + 1)) j)) cq n i) ≤ cq := fun q => by have := (nI_ltI (by omega) (by omega)).mp c_18; omega
          have hb2 := stm_no (f := f_20) (by omega) hcc (fun j q1 q2 => hsc j (by omega) q2) (by rw [e_f_20, nI_clamp (by omega)])
          obtain ⟨x_21, e_21⟩ : ∃ y : Int32, y = (nI i) + (-1) := ⟨_, rfl⟩
          refine lv_iinc (v := x_21) (lv' := [(4, Value.int x_21), (7, Value.int (nI (cc1 (stf 1) (fun j => ask (stf 2) (FSm (stf 1) (stf 2) (stf 3) cq n (n - (i + 1)) j)) cq n i))), (6, Value.int (nI (mm (stf 1) (fun j => ask (stf 2) (FSm (stf 1) (stf 2) (stf 3) cq n (n - (i + 1)) j)) n i))), (5, Value.int (nI (cv (fun j => ask (stf 2) (FSm (stf 1) (stf 2) (stf 3) cq n (n - (i + 1)) j)) (i + 1) (n - 1 - i) 0))), (0, Value.ref h1), (1, Value.int (nI n)), (2, Value.int (nI cq)), (3, Value.ref es)]) hx hb dX2_solve_120 hl (k := 7) rfl (by rw [e_21]; rfl) (by decide) rfl (fun ls hl => ?_)
          refine lv_goto (tgt := 23) hx hb dX2_solve_123 (by decide) ?_
          exact ih_23 i x_21 f_20 u_7 u_16 (by omega) (by omega) (by rw [e_21, nI_iI, show (-1 : Int32) = iI (-1) from rfl, iI_add]; rfl) (hb2) _ _ _ (hP.sub [3, 1, 4, 5, 2, 0] rfl) (hD.sub [3, 1, 4, 5, 2, 0] (by decide) rfl) hS (lv_sub hl [4, 5, 6, 7, 0] rfl)
        · refine lv_aload_n hx hb dX2_solve_80 rfl (lv_at hl 3 rfl) ?_
          refine va_get (D := (dC, dI)) (ci := 2) (v := Value.ref cf) (C := RX2) (T := TX2) (N := 6) hx hb hts inX2 hown hK hP 3 rfl rfl 2 (by decide) (hts _ (gw kw_209 rfl)) (fun _ h9 => h9) rfl dX2_solve_81 ?_
          refine lv_iconst (v := 0) hx hb dX2_solve_84 (by decide) ?_
          refine lv_aload_n hx hb dX2_solve_85 rfl (lv_at hl 3 rfl) ?_
          refine va_get (D := (dC, dI)) (ci := 2) (v := Value.ref cs) (C := RX2) (T := TX2) (N := 6) hx hb hts inX2 hown hK hP 3 rfl rfl 0 (by decide) (hts _ (gw kw_206 rfl)) (fun _ h9 => h9) rfl dX2_solve_86 ?_
          refine lv_iconst (v := 0) hx hb dX2_solve_89 (by decide) ?_
          refine lv_bipush (v := 60) hx hb dX2_solve_90 (by decide) ?_
          refine va_copyi (ty := .int) hx hb (by rw [hml]; exact hl.1.symm) hown (hts _ (gw kw_590 rfl)) (hts _ (gw kw_486 rfl)) (hts _ (gw kw_485 rfl)) (hts _ (gw kw_16 rfl)) hK hP hD hS 5 1 0 0 rfl rfl rfl rfl rfl (by decide) (by decide) (by decide) (by decide) (by decide) (fun _ _ => rfl) (Nat.le_of_ble_eq_true rfl) (Nat.le_of_ble_eq_true rfl) dX2_solve_92 (fun H locs hP hD hS => ?_)
          obtain ⟨f_22, e_f_22⟩ : ∃ y : Nat → Int32, y = va_cpy u_16 sc (0 : Int32).toNatClampNeg (0 : Int32).toNatClampNeg (60 : Int32).toNatClampNeg := ⟨_, rfl⟩
          have hpd9 : PDx (dC, dI) classes A H [cI aC es 5 stf, cI aC cs 60 f_22, cO cl 0 [], oX2 h1 cs ca cf cl (nI n) (nI cq), cI aC ca 60 u_7, cI aC cf 60 u_16] := by rw [e_f_22]; exact ⟨hP, hD⟩
          have hP := hpd9.1
          have hD := hpd9.2
          clear hpd9
          refine lv_aload_n hx hb dX2_solve_95 rfl (lv_at hl 3 rfl) ?_
          refine va_get (D := (dC, dI)) (ci := 2) (v := Value.ref cs) (C := RX2) (T := TX2) (N := 6) hx hb hts inX2 hown hK hP 3 rfl rfl 0 (by decide) (hts _ (gw kw_206 rfl)) (fun _ h9 => h9) rfl dX2_solve_96 ?_
          refine lv_iload hx hb dX2_solve_99 (lv_at hl 7 rfl) ?_
          refine lv_aload_n hx hb dX2_solve_101 rfl (lv_at hl 3 rfl) ?_
          refine va_get (D := (dC, dI)) (ci := 2) (v := Value.int (nI cq)) (C := RX2) (T := TX2) (N := 6) hx hb hts inX2 hown hK hP 3 rfl rfl 5 (by decide) (hts _ (gw kw_212 rfl)) (fun _ h9 => h9) rfl dX2_solve_102 ?_
          refine lv_iload hx hb dX2_solve_105 (lv_at hl 0 rfl) ?_
          refine lv_isub hx hb dX2_solve_107 ?_
          refine lv_topi (fun x_23 e_23 => ?_)
          have h_24 : vp_in (nI i) 60 := vp_in_nI (by omega) (by omega)
          refine va_iast hx hb hK hP hD hS 1 0 rfl rfl h_24 dX2_solve_108 (fun H locs hP hD hS => ?_)
          obtain ⟨f_25, e_f_25⟩ : ∃ y : Nat → Int32, y = upd f_22 (nI i : Int32).toNatClampNeg x_23 := ⟨_, rfl⟩
          have hpd9 : PDx (dC, dI) classes A H [cI aC es 5 stf, cI aC cs 60 f_25, cO cl 0 [], oX2 h1 cs ca cf cl (nI n) (nI cq), cI aC ca 60 u_7, cI aC cf 60 u_16] := by rw [e_f_25]; exact ⟨hP, hD⟩
          have hP := hpd9.1
          have hD := hpd9.2
          clear hpd9
          refine lv_goto (tgt := 120) hx hb dX2_solve_109 (by decide) ?_
          have hcc : (cc1 (stf 1) (fun j => ask (stf 2) (FSm (stf 1) (stf 2) (stf 3) cq n (n - (i + 1)) j)) cq n i) ≤ cq := by
            rcases Nat.lt_or_ge cq (cc1 (stf 1) (fun j => ask (stf 2) (FSm (stf 1) (stf 2) (stf 3) cq n (n - (i + 1)) j)) cq n i) with q | q
            · exact absurd (nI_lt q (by omega)) c_18
            · exact q
          have hb2 := stm_ok (f := f_25) (by omega) (by omega) hcc hy4 e_23 (by rw [e_f_25, e_f_22, nI_clamp (by omega)]; rfl)
          obtain ⟨x_26, e_26⟩ : ∃ y : Int32, y = (nI i) + (-1) := ⟨_, rfl⟩
          refine lv_iinc (v := x_26) (lv' := [(4, Value.int x_26), (7, Value.int (nI (cc1 (stf 1) (fun j => ask (stf 2) (FSm (stf 1) (stf 2) (stf 3) cq n (n - (i + 1)) j)) cq n i))), (6, Value.int (nI (mm (stf 1) (fun j => ask (stf 2) (FSm (stf 1) (stf 2) (stf 3) cq n (n - (i + 1)) j)) n i))), (5, Value.int (nI (cv (fun j => ask (stf 2) (FSm (stf 1) (stf 2) (stf 3) cq n (n - (i + 1)) j)) (i + 1) (n - 1 - i) 0))), (0, Value.ref h1), (1, Value.int (nI n)), (2, Value.int (nI cq)), (3, Value.ref es)]) hx hb dX2_solve_120 hl (k := 7) rfl (by rw [e_26]; rfl) (by decide) rfl (fun ls hl => ?_)
          refine lv_goto (tgt := 23) hx hb dX2_solve_123 (by decide) ?_
          exact ih_23 i x_26 f_25 u_7 u_16 (by omega) (by omega) (by rw [e_26, nI_iI, show (-1 : Int32) = iI (-1) from rfl, iI_add]; rfl) (hb2) _ _ _ (hP.sub [3, 1, 4, 5, 2, 0] rfl) (hD.sub [3, 1, 4, 5, 2, 0] (by decide) rfl) hS (lv_sub hl [4, 5, 6, 7, 0] rfl)
  exact lp_23 (n + 1) n (nI (n - 1)) sf af of (Nat.lt_succ_self _) (Nat.le_refl n) (by rw [nI_iI]; congr 1; omega) (fun j q1 q2 => by omega) _ _ _ (hP.sub [0, 1, 2, 3, 4, 5] rfl) (hD.sub [0, 1, 2, 3, 4, 5] (by decide) rfl) hS (lv_sub hl [1, 2, 3, 4, 0] rfl)

set_option maxHeartbeats 1000000 in
set_option maxRecDepth 100000 in
/-- X11_alike -/
theorem c_X11_alike (l : Launch) (dC : Nat → ClassId) (dI : Nat → Nat → Nat) (aC : Nat → ClassId) (sz : Nat) (h0 : Nat) (xp : Nat) (xtp : Nat) (xn : Nat) (xt : Nat) (xk : Nat) (xl : Nat) (xc : Nat) (xo : Nat) (xto : Nat) (xr : Nat) (xch : Nat) (ts : Int32) (ik : Int32) (st : Int32) (ek : Nat) (ef : Nat) (ew : Nat) (ep : Nat) (es : Nat) (n : Nat) (sn : Nat) (dn : Int32) (stf : Nat → Int32) (rf : Nat → Int32) (cs : Nat) (ca : Nat) (cf : Nat) (k0 : Nat) (co : Int32) (sf : Nat → Int32) (af : Nat → Int32) (of : Nat → Int32) (z1 : Int32) (a1 : Int32) (a2 : Int32) (a3 : Int32) (a4 : Int32)  : Met l yX11_alike (wW yX11_alike cX11_alike 5 (some .int)) ({ frames := 4, cells := 0, slots := 0, locals := 92 } : Room) (va_Pc [Value.ref h0, Value.int a1, Value.int a2, Value.int a3, Value.int a4] (fun U => U.heap.size = sz ∧ va_P (dC, dI) classes [oX11 h0 xp xtp xn xt xk xl xc xo xto xr xch ts ik st, oX4 xn ek ef ew ep es (nI n) (nI sn) dn, cI aC es 5 stf, oX2 xc cs ca cf k0 z1 co, cI aC cs 60 sf, cI aC ca 60 af, cI aC cf 60 of, cO k0 0 [], cI aC xr 7 rf] U.heap ∧ va_K (dC, dI) classes (TY aC) U ∧ va_D (fun _ => True) [oX11 h0 xp xtp xn xt xk xl xc xo xto xr xch ts ik st, oX4 xn ek ef ew ep es (nI n) (nI sn) dn, cI aC es 5 stf, oX2 xc cs ca cf k0 z1 co, cI aC cs 60 sf, cI aC ca 60 af, cI aC cf 60 of, cO k0 0 [], cI aC xr 7 rf] ∧ NX U)) (va_Qi (fun (r : Int32) (u : Int32 × Int32 × (Nat → Int32) × (Nat → Int32) × (Nat → Int32) × (Nat → Int32)) => match u with | (z2, co2, sg, ag, og, rf2) => r = ALK stf a1 a2 a3 a4) (fun (u : Int32 × Int32 × (Nat → Int32) × (Nat → Int32) × (Nat → Int32) × (Nat → Int32)) (t : State) => match u with | (z2, co2, sg, ag, og, rf2) => va_P (dC, dI) classes [oX11 h0 xp xtp xn xt xk xl xc xo xto xr xch ts ik st, oX4 xn ek ef ew ep es (nI n) (nI sn) dn, cI aC es 5 stf, oX2 xc cs ca cf k0 z2 co2, cI aC cs 60 sg, cI aC ca 60 ag, cI aC cf 60 og, cO k0 0 [], cI aC xr 7 rf2] t.heap ∧ va_K (dC, dI) classes (TY aC) t ∧ va_D (va_A [oX11 h0 xp xtp xn xt xk xl xc xo xto xr xch ts ik st, oX4 xn ek ef ew ep es (nI n) (nI sn) dn, cI aC es 5 stf, oX2 xc cs ca cf k0 z1 co, cI aC cs 60 sf, cI aC ca 60 af, cI aC cf 60 of, cO k0 0 [], cI aC xr 7 rf] sz) [oX11 h0 xp xtp xn xt xk xl xc xo xto xr xch ts ik st, oX4 xn ek ef ew ep es (nI n) (nI sn) dn, cI aC es 5 stf, oX2 xc cs ca cf k0 z2 co2, cI aC cs 60 sg, cI aC ca 60 ag, cI aC cf 60 og, cO k0 0 [], cI aC xr 7 rf2]) (va_A [oX11 h0 xp xtp xn xt xk xl xc xo xto xr xch ts ik st, oX4 xn ek ef ew ep es (nI n) (nI sn) dn, cI aC es 5 stf, oX2 xc cs ca cf k0 z1 co, cI aC cs 60 sf, cI aC ca 60 af, cI aC cf 60 of, cO k0 0 [], cI aC xr 7 rf] sz)) 0 0 (va_A [oX11 h0 xp xtp xn xt xk xl xc xo xto xr xch ts ik st, oX4 xn ek ef ew ep es (nI n) (nI sn) dn, cI aC es 5 stf, oX2 xc cs ca cf k0 z1 co, cI aC cs 60 sf, cI aC ca 60 af, cI aC cf 60 of, cO k0 0 [], cI aC xr 7 rf] sz) := by
  refine Met.ofW (cc := cX11_alike) (maxL := 5) (ret := (some .int)) (by decide) rfl ?_
  intro p e s m args below meth c s₁ B hml hv
  obtain ⟨rfl, hsz, hP, hK, hD0, hN⟩ := hv
  have hx := B.exec
  have hb := B.bytes
  have hr := B.returns
  have hts0 := atoms_spec (ws := (wW yX11_alike cX11_alike 5 (some .int))) B.pre
  have hts : ∀ w9 ∈ lw_G, w9.before ([Value.ref h0, Value.int a1, Value.int a2, Value.int a3, Value.int a4] : List Value).toArray s = true := fun w9 h9 => hts0 w9 (List.mem_cons_of_mem _ h9)
  have hown : s.vm.findClass RX11 = some m.cls := findClass_of_methodNamed (x := yX11_alike) B.named
  have hlocks := B.notSynchronized
  subst hsz
  have hD := hD0.self (sz := s.heap.size)
  generalize hAe : va_A [oX11 h0 xp xtp xn xt xk xl xc xo xto xr xch ts ik st, oX4 xn ek ef ew ep es (nI n) (nI sn) dn, cI aC es 5 stf, oX2 xc cs ca cf k0 z1 co, cI aC cs 60 sf, cI aC ca 60 af, cI aC cf 60 of, cO k0 0 [], cI aC xr 7 rf] s.heap.size = A at hD ⊢
  have hA : ∀ q : Nat, s.heap.size ≤ q → A q := fun q h => by rw [← hAe]; exact Or.inr h
  obtain ⟨H, hHe⟩ : ∃ H : Heap, H = s.heap := ⟨_, rfl⟩
  have hS : va_S A s.heap H [] := by rw [hHe]; exact va_S.rf
  have hP : va_P (dC, dI) classes [oX11 h0 xp xtp xn xt xk xl xc xo xto xr xch ts ik st, oX4 xn ek ef ew ep es (nI n) (nI sn) dn, cI aC es 5 stf, oX2 xc cs ca cf k0 z1 co, cI aC cs 60 sf, cI aC ca 60 af, cI aC cf 60 of, cO k0 0 [], cI aC xr 7 rf] H := by rw [hHe]; exact hP
  have hl := lv_entry ([Value.ref h0, Value.int a1, Value.int a2, Value.int a3, Value.int a4]) (n := 5) (Nat.le_of_ble_eq_true rfl)
  rw [lg_entry_eq]
  generalize (lg_sl ([Value.ref h0, Value.int a1, Value.int a2, Value.int a3, Value.int a4]) ++ List.replicate (5 - (lg_sl ([Value.ref h0, Value.int a1, Value.int a2, Value.int a3, Value.int a4])).length) Slot.unset).toArray = ls at hl ⊢
  have hl : lv_has ls 5 [(0, Value.ref h0), (1, Value.int a1), (2, Value.int a2), (3, Value.int a3), (4, Value.int a4)] := hl
  rw [← hHe]
  refine lv_iload_n hx hb dX11_alike_0 rfl (lv_at hl 1 rfl) ?_
  refine lv_iconst (v := 1) hx hb dX11_alike_1 (by decide) ?_
  refine lv_icmp_lt (tgt := 13) hx hb dX11_alike_2 (by decide) (fun c_1 => ?_) (fun c_1 => ?_)
  · refine lv_ldc hx hb hown (hts _ (gw kw_507 rfl)) dX11_alike_13 ?_
    refine lv_aload_n hx hb dX11_alike_15 rfl (lv_at hl 0 rfl) ?_
    refine lv_bipush (v := -4) hx hb dX11_alike_16 (by decide) ?_
    have hpd9 := pdf_N (cx := [oX11 h0 xp xtp xn xt xk xl xc xo xto xr xch ts ik st, cI aC xr 7 rf]) hP hD hS hA [0, 8] (by decide) rfl
    have hPc := hpd9.1
    have hDc := hpd9.2.1
    have hFc := hpd9.2.2
    clear hpd9
    refine va_calli (va_runV (As := [Value.int (-4)]) (rest := [Value.int 1000000000]) ⟨hx, hb, hml, hown, hts⟩ (c_X11_refuse l dC dI aC H.size h0 xp xtp xn xt xk xl xc xo xto xr xch ts ik st (-4) 4 rf (by decide) (by decide) (by decide) (by unfold vp_in; decide)) ⟨(callB_of 1 hts (gG kw_276) rfl rfl rfl (hts _ (gw kw_1 rfl)) (hts _ (gw kw_273 rfl)) hd_X11_refuse ⟨Nat.le_of_ble_eq_true rfl, Nat.le_of_ble_eq_true rfl⟩), (hts _ (gw kw_275 rfl)), (hts _ (gw ks_0 rfl))⟩ ⟨fb_std, va_recv (q := (RX11, TX11, 14)) hK hPc (ci := 11) (q0 := 0) rfl rfl, pre_std hPc hK hDc hN⟩ rfl rfl hl.1 rfl (lv_room (Nat.le_of_ble_eq_true rfl)) dX11_alike_18 ⟨Nat.le_of_ble_eq_true rfl, Nat.le_of_ble_eq_true rfl⟩) hS (fun q _ h => hFc q h) hFc (fun x_2 u9 t9 H1 locs ht hvm hw_2 hB hz1 hk1 hS => ?_)
    obtain ⟨u_3, rfl⟩ : ∃ z, z = u9 := ⟨_, rfl⟩
    obtain ⟨hP1, hK1, hD1⟩ := hB
    rw [ht] at hP1
    clear hK1
    try dsimp only at hw_2
    have hpd9 : PDx (dC, dI) classes A H1 [oX4 xn ek ef ew ep es (nI n) (nI sn) dn, cI aC es 5 stf, oX2 xc cs ca cf k0 z1 co, cI aC cs 60 sf, cI aC ca 60 af, cI aC cf 60 of, cO k0 0 [], oX11 h0 xp xtp xn xt xk xl xc xo xto xr xch ts ik st, cI aC xr 7 u_3] := jn_N (wr := [oX4 xn ek ef ew ep es (nI n) (nI sn) dn, cI aC es 5 stf, oX2 xc cs ca cf k0 z1 co, cI aC cs 60 sf, cI aC ca 60 af, cI aC cf 60 of, cO k0 0 []]) hFc hk1 hP1 hD1 hP hD [0, 8] [1, 2, 3, 4, 5, 6, 7] rfl rfl (by decide) (by decide)
    have hP := hpd9.1
    have hD := hpd9.2
    clear hpd9
    generalize H1 = H at hP hS ⊢
    clear hPc hDc hFc hz1 hk1 hP1 hD1 ht hvm
    obtain ⟨hv9, -⟩ := hw_2
    refine lv_isub hx hb dX11_alike_21 ?_
    refine lv_topi (fun x_4 e_4 => ?_)
    have hpd9 := pd_N (cx := [oX11 h0 xp xtp xn xt xk xl xc xo xto xr xch ts ik st, oX4 xn ek ef ew ep es (nI n) (nI sn) dn, cI aC es 5 stf, oX2 xc cs ca cf k0 z1 co, cI aC cs 60 sf, cI aC ca 60 af, cI aC cf 60 of, cO k0 0 [], cI aC xr 7 u_3]) hP hD [7, 0, 1, 2, 3, 4, 5, 6, 8] (by decide) rfl
    have hP9 := hpd9.1
    have hD9 := hpd9.2
    refine W.widen (k := 0) (n := 0) (by omega) (by omega) ?_
    exact W.iret (v := x_4) hx hb hr (fun t ht hW => ⟨⟨x_4, (z1, co, sf, af, of, u_3), rfl, by rw [e_4, hv9, alk_4 (Or.inl c_1)]; rfl, by rw [ht]; exact hP9, va_K.moved hW.alike hK, hD9⟩, hS.F ht⟩) hS.2.2 dX11_alike_22
  · refine lv_iload_n hx hb dX11_alike_5 rfl (lv_at hl 2 rfl) ?_
    refine lv_if_lt (tgt := 13) hx hb dX11_alike_6 (by decide) (fun c_5 => ?_) (fun c_5 => ?_)
    · refine lv_ldc hx hb hown (hts _ (gw kw_507 rfl)) dX11_alike_13 ?_
      refine lv_aload_n hx hb dX11_alike_15 rfl (lv_at hl 0 rfl) ?_
      refine lv_bipush (v := -4) hx hb dX11_alike_16 (by decide) ?_
      have hpd9 := pdf_N (cx := [oX11 h0 xp xtp xn xt xk xl xc xo xto xr xch ts ik st, cI aC xr 7 rf]) hP hD hS hA [0, 8] (by decide) rfl
      have hPc := hpd9.1
      have hDc := hpd9.2.1
      have hFc := hpd9.2.2
      clear hpd9
      refine va_calli (va_runV (As := [Value.int (-4)]) (rest := [Value.int 1000000000]) ⟨hx, hb, hml, hown, hts⟩ (c_X11_refuse l dC dI aC H.size h0 xp xtp xn xt xk xl xc xo xto xr xch ts ik st (-4) 4 rf (by decide) (by decide) (by decide) (by unfold vp_in; decide)) ⟨(callB_of 1 hts (gG kw_276) rfl rfl rfl (hts _ (gw kw_1 rfl)) (hts _ (gw kw_273 rfl)) hd_X11_refuse ⟨Nat.le_of_ble_eq_true rfl, Nat.le_of_ble_eq_true rfl⟩), (hts _ (gw kw_275 rfl)), (hts _ (gw ks_0 rfl))⟩ ⟨fb_std, va_recv (q := (RX11, TX11, 14)) hK hPc (ci := 11) (q0 := 0) rfl rfl, pre_std hPc hK hDc hN⟩ rfl rfl hl.1 rfl (lv_room (Nat.le_of_ble_eq_true rfl)) dX11_alike_18 ⟨Nat.le_of_ble_eq_true rfl, Nat.le_of_ble_eq_true rfl⟩) hS (fun q _ h => hFc q h) hFc (fun x_6 u9 t9 H1 locs ht hvm hw_6 hB hz1 hk1 hS => ?_)
      obtain ⟨u_7, rfl⟩ : ∃ z, z = u9 := ⟨_, rfl⟩
      obtain ⟨hP1, hK1, hD1⟩ := hB
      rw [ht] at hP1
      clear hK1
      try dsimp only at hw_6
      have hpd9 : PDx (dC, dI) classes A H1 [oX4 xn ek ef ew ep es (nI n) (nI sn) dn, cI aC es 5 stf, oX2 xc cs ca cf k0 z1 co, cI aC cs 60 sf, cI aC ca 60 af, cI aC cf 60 of, cO k0 0 [], oX11 h0 xp xtp xn xt xk xl xc xo xto xr xch ts ik st, cI aC xr 7 u_7] := jn_N (wr := [oX4 xn ek ef ew ep es (nI n) (nI sn) dn, cI aC es 5 stf, oX2 xc cs ca cf k0 z1 co, cI aC cs 60 sf, cI aC ca 60 af, cI aC cf 60 of, cO k0 0 []]) hFc hk1 hP1 hD1 hP hD [0, 8] [1, 2, 3, 4, 5, 6, 7] rfl rfl (by decide) (by decide)
      have hP := hpd9.1
      have hD := hpd9.2
      clear hpd9
      generalize H1 = H at hP hS ⊢
      clear hPc hDc hFc hz1 hk1 hP1 hD1 ht hvm
      obtain ⟨hv9, -⟩ := hw_6
      refine lv_isub hx hb dX11_alike_21 ?_
      refine lv_topi (fun x_8 e_8 => ?_)
      have hpd9 := pd_N (cx := [oX11 h0 xp xtp xn xt xk xl xc xo xto xr xch ts ik st, oX4 xn ek ef ew ep es (nI n) (nI sn) dn, cI aC es 5 stf, oX2 xc cs ca cf k0 z1 co, cI aC cs 60 sf, cI aC ca 60 af, cI aC cf 60 of, cO k0 0 [], cI aC xr 7 u_7]) hP hD [7, 0, 1, 2, 3, 4, 5, 6, 8] (by decide) rfl
      have hP9 := hpd9.1
      have hD9 := hpd9.2
      refine W.widen (k := 0) (n := 0) (by omega) (by omega) ?_
      exact W.iret (v := x_8) hx hb hr (fun t ht hW => ⟨⟨x_8, (z1, co, sf, af, of, u_7), rfl, by rw [e_8, hv9, alk_4 (Or.inr (Or.inl c_5))]; rfl, by rw [ht]; exact hP9, va_K.moved hW.alike hK, hD9⟩, hS.F ht⟩) hS.2.2 dX11_alike_22
    · refine lv_iload_n hx hb dX11_alike_9 rfl (lv_at hl 3 rfl) ?_
      refine lv_if_ge (tgt := 23) hx hb dX11_alike_10 (by decide) (fun c_9 => ?_) (fun c_9 => ?_)
      · refine lv_iload_n hx hb dX11_alike_23 rfl (lv_at hl 1 rfl) ?_
        refine lv_bipush (v := 60) hx hb dX11_alike_24 (by decide) ?_
        refine lv_icmp_gt (tgt := 40) hx hb dX11_alike_26 (by decide) (fun c_10 => ?_) (fun c_10 => ?_)
        · refine lv_ldc hx hb hown (hts _ (gw kw_507 rfl)) dX11_alike_40 ?_
          refine lv_aload_n hx hb dX11_alike_42 rfl (lv_at hl 0 rfl) ?_
          refine lv_bipush (v := -6) hx hb dX11_alike_43 (by decide) ?_
          have hpd9 := pdf_N (cx := [oX11 h0 xp xtp xn xt xk xl xc xo xto xr xch ts ik st, cI aC xr 7 rf]) hP hD hS hA [0, 8] (by decide) rfl
          have hPc := hpd9.1
          have hDc := hpd9.2.1
          have hFc := hpd9.2.2
          clear hpd9
          refine va_calli (va_runV (As := [Value.int (-6)]) (rest := [Value.int 1000000000]) ⟨hx, hb, hml, hown, hts⟩ (c_X11_refuse l dC dI aC H.size h0 xp xtp xn xt xk xl xc xo xto xr xch ts ik st (-6) 6 rf (by decide) (by decide) (by decide) (by unfold vp_in; decide)) ⟨(callB_of 1 hts (gG kw_276) rfl rfl rfl (hts _ (gw kw_1 rfl)) (hts _ (gw kw_273 rfl)) hd_X11_refuse ⟨Nat.le_of_ble_eq_true rfl, Nat.le_of_ble_eq_true rfl⟩), (hts _ (gw kw_275 rfl)), (hts _ (gw ks_0 rfl))⟩ ⟨fb_std, va_recv (q := (RX11, TX11, 14)) hK hPc (ci := 11) (q0 := 0) rfl rfl, pre_std hPc hK hDc hN⟩ rfl rfl hl.1 rfl (lv_room (Nat.le_of_ble_eq_true rfl)) dX11_alike_45 ⟨Nat.le_of_ble_eq_true rfl, Nat.le_of_ble_eq_true rfl⟩) hS (fun q _ h => hFc q h) hFc (fun x_11 u9 t9 H1 locs ht hvm hw_11 hB hz1 hk1 hS => ?_)
          obtain ⟨u_12, rfl⟩ : ∃ z, z = u9 := ⟨_, rfl⟩
          obtain ⟨hP1, hK1, hD1⟩ := hB
          rw [ht] at hP1
          clear hK1
          try dsimp only at hw_11
          have hpd9 : PDx (dC, dI) classes A H1 [oX4 xn ek ef ew ep es (nI n) (nI sn) dn, cI aC es 5 stf, oX2 xc cs ca cf k0 z1 co, cI aC cs 60 sf, cI aC ca 60 af, cI aC cf 60 of, cO k0 0 [], oX11 h0 xp xtp xn xt xk xl xc xo xto xr xch ts ik st, cI aC xr 7 u_12] := jn_N (wr := [oX4 xn ek ef ew ep es (nI n) (nI sn) dn, cI aC es 5 stf, oX2 xc cs ca cf k0 z1 co, cI aC cs 60 sf, cI aC ca 60 af, cI aC cf 60 of, cO k0 0 []]) hFc hk1 hP1 hD1 hP hD [0, 8] [1, 2, 3, 4, 5, 6, 7] rfl rfl (by decide) (by decide)
          have hP := hpd9.1
          have hD := hpd9.2
          clear hpd9
          generalize H1 = H at hP hS ⊢
          clear hPc hDc hFc hz1 hk1 hP1 hD1 ht hvm
          obtain ⟨hv9, -⟩ := hw_11
          refine lv_isub hx hb dX11_alike_48 ?_
          refine lv_topi (fun x_13 e_13 => ?_)
          have hpd9 := pd_N (cx := [oX11 h0 xp xtp xn xt xk xl xc xo xto xr xch ts ik st, oX4 xn ek ef ew ep es (nI n) (nI sn) dn, cI aC es 5 stf, oX2 xc cs ca cf k0 z1 co, cI aC cs 60 sf, cI aC ca 60 af, cI aC cf 60 of, cO k0 0 [], cI aC xr 7 u_12]) hP hD [7, 0, 1, 2, 3, 4, 5, 6, 8] (by decide) rfl
          have hP9 := hpd9.1
          have hD9 := hpd9.2
          refine W.widen (k := 0) (n := 0) (by omega) (by omega) ?_
          exact W.iret (v := x_13) hx hb hr (fun t ht hW => ⟨⟨x_13, (z1, co, sf, af, of, u_12), rfl, by rw [e_13, hv9, alk_6 c_1 c_5 c_9 (Or.inl c_10)]; rfl, by rw [ht]; exact hP9, va_K.moved hW.alike hK, hD9⟩, hS.F ht⟩) hS.2.2 dX11_alike_49
        · refine lv_iload_n hx hb dX11_alike_29 rfl (lv_at hl 2 rfl) ?_
          refine lv_bipush (v := 99) hx hb dX11_alike_30 (by decide) ?_
          refine lv_icmp_gt (tgt := 40) hx hb dX11_alike_32 (by decide) (fun c_14 => ?_) (fun c_14 => ?_)
          · refine lv_ldc hx hb hown (hts _ (gw kw_507 rfl)) dX11_alike_40 ?_
            refine lv_aload_n hx hb dX11_alike_42 rfl (lv_at hl 0 rfl) ?_
            refine lv_bipush (v := -6) hx hb dX11_alike_43 (by decide) ?_
            have hpd9 := pdf_N (cx := [oX11 h0 xp xtp xn xt xk xl xc xo xto xr xch ts ik st, cI aC xr 7 rf]) hP hD hS hA [0, 8] (by decide) rfl
            have hPc := hpd9.1
            have hDc := hpd9.2.1
            have hFc := hpd9.2.2
            clear hpd9
            refine va_calli (va_runV (As := [Value.int (-6)]) (rest := [Value.int 1000000000]) ⟨hx, hb, hml, hown, hts⟩ (c_X11_refuse l dC dI aC H.size h0 xp xtp xn xt xk xl xc xo xto xr xch ts ik st (-6) 6 rf (by decide) (by decide) (by decide) (by unfold vp_in; decide)) ⟨(callB_of 1 hts (gG kw_276) rfl rfl rfl (hts _ (gw kw_1 rfl)) (hts _ (gw kw_273 rfl)) hd_X11_refuse ⟨Nat.le_of_ble_eq_true rfl, Nat.le_of_ble_eq_true rfl⟩), (hts _ (gw kw_275 rfl)), (hts _ (gw ks_0 rfl))⟩ ⟨fb_std, va_recv (q := (RX11, TX11, 14)) hK hPc (ci := 11) (q0 := 0) rfl rfl, pre_std hPc hK hDc hN⟩ rfl rfl hl.1 rfl (lv_room (Nat.le_of_ble_eq_true rfl)) dX11_alike_45 ⟨Nat.le_of_ble_eq_true rfl, Nat.le_of_ble_eq_true rfl⟩) hS (fun q _ h => hFc q h) hFc (fun x_15 u9 t9 H1 locs ht hvm hw_15 hB hz1 hk1 hS => ?_)
            obtain ⟨u_16, rfl⟩ : ∃ z, z = u9 := ⟨_, rfl⟩
            obtain ⟨hP1, hK1, hD1⟩ := hB
            rw [ht] at hP1
            clear hK1
            try dsimp only at hw_15
            have hpd9 : PDx (dC, dI) classes A H1 [oX4 xn ek ef ew ep es (nI n) (nI sn) dn, cI aC es 5 stf, oX2 xc cs ca cf k0 z1 co, cI aC cs 60 sf, cI aC ca 60 af, cI aC cf 60 of, cO k0 0 [], oX11 h0 xp xtp xn xt xk xl xc xo xto xr xch ts ik st, cI aC xr 7 u_16] := jn_N (wr := [oX4 xn ek ef ew ep es (nI n) (nI sn) dn, cI aC es 5 stf, oX2 xc cs ca cf k0 z1 co, cI aC cs 60 sf, cI aC ca 60 af, cI aC cf 60 of, cO k0 0 []]) hFc hk1 hP1 hD1 hP hD [0, 8] [1, 2, 3, 4, 5, 6, 7] rfl rfl (by decide) (by decide)
            have hP := hpd9.1
            have hD := hpd9.2
            clear hpd9
            generalize H1 = H at hP hS ⊢
            clear hPc hDc hFc hz1 hk1 hP1 hD1 ht hvm
            obtain ⟨hv9, -⟩ := hw_15
            refine lv_isub hx hb dX11_alike_48 ?_
            refine lv_topi (fun x_17 e_17 => ?_)
            have hpd9 := pd_N (cx := [oX11 h0 xp xtp xn xt xk xl xc xo xto xr xch ts ik st, oX4 xn ek ef ew ep es (nI n) (nI sn) dn, cI aC es 5 stf, oX2 xc cs ca cf k0 z1 co, cI aC cs 60 sf, cI aC ca 60 af, cI aC cf 60 of, cO k0 0 [], cI aC xr 7 u_16]) hP hD [7, 0, 1, 2, 3, 4, 5, 6, 8] (by decide) rfl
            have hP9 := hpd9.1
            have hD9 := hpd9.2
            refine W.widen (k := 0) (n := 0) (by omega) (by omega) ?_
            exact W.iret (v := x_17) hx hb hr (fun t ht hW => ⟨⟨x_17, (z1, co, sf, af, of, u_16), rfl, by rw [e_17, hv9, alk_6 c_1 c_5 c_9 (Or.inr (Or.inl c_14))]; rfl, by rw [ht]; exact hP9, va_K.moved hW.alike hK, hD9⟩, hS.F ht⟩) hS.2.2 dX11_alike_49
          · refine lv_iload_n hx hb dX11_alike_35 rfl (lv_at hl 3 rfl) ?_
            refine lv_iload_n hx hb dX11_alike_36 rfl (lv_at hl 1 rfl) ?_
            refine lv_icmp_lt (tgt := 50) hx hb dX11_alike_37 (by decide) (fun c_18 => ?_) (fun c_18 => ?_)
            · obtain ⟨n7, hn2, hn3⟩ := al_of (x := a1) (M := 60) (N := 60) rfl (lt1_0 c_1) c_10
              subst hn3
              have hn1 := al_n c_1 hn2
              obtain ⟨cq, hc, hc3⟩ := al_of (x := a2) (M := 99) (N := 99) rfl c_5 c_14
              subst hc3
              obtain ⟨k, hk1, hk3⟩ := nI_of (x := a3) (Int32.not_lt.mpr c_9)
              subst hk3
              have hk : k < n7 := (nI_ltI hk1 (by omega)).mp c_18
              refine lv_aload_n hx hb dX11_alike_50 rfl (lv_at hl 0 rfl) ?_
              refine va_get (D := (dC, dI)) (ci := 11) (v := Value.ref xc) (C := RX11) (T := TX11) (N := 14) hx hb hts inX11 hown hK hP 0 rfl rfl 6 (by decide) (hts _ (gw kw_232 rfl)) (fun _ h9 => h9) rfl dX11_alike_51 ?_
              refine lv_iload_n hx hb dX11_alike_54 rfl (lv_at hl 1 rfl) ?_
              refine lv_iload_n hx hb dX11_alike_55 rfl (lv_at hl 2 rfl) ?_
              refine lv_aload_n hx hb dX11_alike_56 rfl (lv_at hl 0 rfl) ?_
              refine va_get (D := (dC, dI)) (ci := 11) (v := Value.ref xn) (C := RX11) (T := TX11) (N := 14) hx hb hts inX11 hown hK hP 0 rfl rfl 2 (by decide) (hts _ (gw kw_228 rfl)) (fun _ h9 => h9) rfl dX11_alike_57 ?_
              refine va_get (D := (dC, dI)) (ci := 4) (v := Value.ref es) (C := RX4) (T := TX4) (N := 8) hx hb hts inX4 hown hK hP 1 rfl rfl 4 (by decide) (hts _ (gw kw_45 rfl)) (fun _ h9 => h9) rfl dX11_alike_60 ?_
              have hpd9 := pdf_N (cx := [oX2 xc cs ca cf k0 z1 co, cI aC cs 60 sf, cI aC ca 60 af, cI aC cf 60 of, cO k0 0 [], cI aC es 5 stf]) hP hD hS hA [3, 4, 5, 6, 7, 2] (by decide) rfl
              have hPc := hpd9.1
              have hDc := hpd9.2.1
              have hFc := hpd9.2.2
              clear hpd9
              refine va_callv (va_runV (As := [Value.int (nI n7), Value.int (nI cq), Value.ref es]) (rest := []) ⟨hx, hb, hml, hown, hts⟩ (c_X2_solve l dC dI aC H.size xc cs ca cf k0 es n7 cq z1 co sf af of stf (⟨hn1, hn2⟩) (hc)) ⟨(callB_of 3 hts (gG kw_564) rfl rfl rfl (hts _ (gw kw_12 rfl)) (hts _ (gw kw_561 rfl)) hd_X2_solve ⟨Nat.le_of_ble_eq_true rfl, Nat.le_of_ble_eq_true rfl⟩), (hts _ (gw kw_562 rfl)), (hts _ (gw kw_563 rfl))⟩ ⟨fb_std, va_recv (q := (RX2, TX2, 6)) hK hPc (ci := 2) (q0 := 0) rfl rfl, pre_std hPc hK hDc hN⟩ rfl rfl hl.1 rfl (lv_room (Nat.le_of_ble_eq_true rfl)) dX11_alike_63 ⟨Nat.le_of_ble_eq_true rfl, Nat.le_of_ble_eq_true rfl⟩) hS (fun q _ h => hFc q h) hFc (fun u9 t9 H1 locs ht hvm hw_19 hB hz1 hk1 hS => ?_)
              obtain ⟨u_20, u_21, u_22⟩ := u9
              obtain ⟨hP1, hK1, hD1⟩ := hB
              rw [ht] at hP1
              clear hK1
              try dsimp only at hw_19
              have hpd9 : PDx (dC, dI) classes A H1 [oX11 h0 xp xtp xn xt xk xl xc xo xto xr xch ts ik st, oX4 xn ek ef ew ep es (nI n) (nI sn) dn, cI aC xr 7 rf, oX2 xc cs ca cf k0 (nI n7) (nI cq), cI aC cs 60 u_20, cI aC ca 60 u_21, cI aC cf 60 u_22, cO k0 0 [], cI aC es 5 stf] := jn_N (wr := [oX11 h0 xp xtp xn xt xk xl xc xo xto xr xch ts ik st, oX4 xn ek ef ew ep es (nI n) (nI sn) dn, cI aC xr 7 rf]) hFc hk1 hP1 hD1 hP hD [3, 4, 5, 6, 7, 2] [0, 1, 8] rfl rfl (by decide) (by decide)
              have hP := hpd9.1
              have hD := hpd9.2
              clear hpd9
              generalize H1 = H at hP hS ⊢
              clear hPc hDc hFc hz1 hk1 hP1 hD1 ht hvm
              have hsol := hw_19
              refine lv_iload hx hb dX11_alike_66 (lv_at hl 4 rfl) ?_
              refine lv_if_eq (tgt := 90) hx hb dX11_alike_68 (by decide) (fun c_23 => ?_) (fun c_23 => ?_)
              · refine lv_aload_n hx hb dX11_alike_90 rfl (lv_at hl 0 rfl) ?_
                refine va_get (D := (dC, dI)) (ci := 11) (v := Value.ref xc) (C := RX11) (T := TX11) (N := 14) hx hb hts inX11 hown hK hP 0 rfl rfl 6 (by decide) (hts _ (gw kw_232 rfl)) (fun _ h9 => h9) rfl dX11_alike_91 ?_
                refine va_get (D := (dC, dI)) (ci := 2) (v := Value.ref cs) (C := RX2) (T := TX2) (N := 6) hx hb hts inX2 hown hK hP 3 rfl rfl 0 (by decide) (hts _ (gw kw_207 rfl)) (fun _ h9 => h9) rfl dX11_alike_94 ?_
                refine lv_iload_n hx hb dX11_alike_97 rfl (lv_at hl 3 rfl) ?_
                have h_24 : vp_in (nI k) 60 := vp_in_nI (by omega) (by omega)
                refine va_iald hx hb hK hP 4 0 rfl rfl h_24 dX11_alike_98 ?_
                refine lv_topi (fun x_25 e_25 => ?_)
                have hpd9 := pd_N (cx := [oX11 h0 xp xtp xn xt xk xl xc xo xto xr xch ts ik st, oX4 xn ek ef ew ep es (nI n) (nI sn) dn, cI aC es 5 stf, oX2 xc cs ca cf k0 (nI n7) (nI cq), cI aC cs 60 u_20, cI aC ca 60 u_21, cI aC cf 60 u_22, cO k0 0 [], cI aC xr 7 rf]) hP hD [0, 1, 8, 3, 4, 5, 6, 7, 2] (by decide) rfl
                have hP9 := hpd9.1
                have hD9 := hpd9.2
                refine W.widen (k := 0) (n := 0) (by omega) (by omega) ?_
                exact W.iret (v := x_25) hx hb hr (fun t ht hW => ⟨⟨x_25, ((nI n7), (nI cq), u_20, u_21, u_22, rf), rfl, by rw [ALK_in hn1 hn2 hc hk, if_pos c_23, e_25, nI_clamp (by omega)]; exact hsol k hk, by rw [ht]; exact hP9, va_K.moved hW.alike hK, hD9⟩, hS.F ht⟩) hS.2.2 dX11_alike_99
              · refine lv_aload_n hx hb dX11_alike_71 rfl (lv_at hl 0 rfl) ?_
                refine va_get (D := (dC, dI)) (ci := 11) (v := Value.ref xc) (C := RX11) (T := TX11) (N := 14) hx hb hts inX11 hown hK hP 0 rfl rfl 6 (by decide) (hts _ (gw kw_232 rfl)) (fun _ h9 => h9) rfl dX11_alike_72 ?_
                refine va_get (D := (dC, dI)) (ci := 2) (v := Value.ref cs) (C := RX2) (T := TX2) (N := 6) hx hb hts inX2 hown hK hP 3 rfl rfl 0 (by decide) (hts _ (gw kw_207 rfl)) (fun _ h9 => h9) rfl dX11_alike_75 ?_
                refine lv_iconst (v := 0) hx hb dX11_alike_78 (by decide) ?_
                have h_26 : vp_in 0 60 := by unfold vp_in; decide
                refine va_iald hx hb hK hP 4 0 rfl rfl h_26 dX11_alike_79 ?_
                refine lv_topi (fun x_27 e_27 => ?_)
                refine lv_iconst (v := -1) hx hb dX11_alike_80 (by decide) ?_
                refine lv_icmp_ne (tgt := 88) hx hb dX11_alike_81 (by decide) (fun c_28 => ?_) (fun c_28 => ?_)
                · refine lv_iconst (v := 1) hx hb dX11_alike_88 (by decide) ?_
                  have hpd9 := pd_N (cx := [oX11 h0 xp xtp xn xt xk xl xc xo xto xr xch ts ik st, oX4 xn ek ef ew ep es (nI n) (nI sn) dn, cI aC es 5 stf, oX2 xc cs ca cf k0 (nI n7) (nI cq), cI aC cs 60 u_20, cI aC ca 60 u_21, cI aC cf 60 u_22, cO k0 0 [], cI aC xr 7 rf]) hP hD [0, 1, 8, 3, 4, 5, 6, 7, 2] (by decide) rfl
                  have hP9 := hpd9.1
                  have hD9 := hpd9.2
                  refine W.widen (k := 0) (n := 0) (by omega) (by omega) ?_
                  exact W.iret (v := 1) hx hb hr (fun t ht hW => ⟨⟨1, ((nI n7), (nI cq), u_20, u_21, u_22, rf), rfl, by rw [ALK_in hn1 hn2 hc hk, if_neg c_23, if_neg (fun q => c_28 (by rw [e_27]; exact (hsol 0 hn1).trans ((fsm_m1 hc hn1).mpr q)))], by rw [ht]; exact hP9, va_K.moved hW.alike hK, hD9⟩, hS.F ht⟩) hS.2.2 dX11_alike_89
                · refine lv_iconst (v := 0) hx hb dX11_alike_84 (by decide) ?_
                  refine lv_goto (tgt := 89) hx hb dX11_alike_85 (by decide) ?_
                  have hpd9 := pd_N (cx := [oX11 h0 xp xtp xn xt xk xl xc xo xto xr xch ts ik st, oX4 xn ek ef ew ep es (nI n) (nI sn) dn, cI aC es 5 stf, oX2 xc cs ca cf k0 (nI n7) (nI cq), cI aC cs 60 u_20, cI aC ca 60 u_21, cI aC cf 60 u_22, cO k0 0 [], cI aC xr 7 rf]) hP hD [0, 1, 8, 3, 4, 5, 6, 7, 2] (by decide) rfl
                  have hP9 := hpd9.1
                  have hD9 := hpd9.2
                  refine W.widen (k := 0) (n := 0) (by omega) (by omega) ?_
                  exact W.iret (v := 0) hx hb hr (fun t ht hW => ⟨⟨0, ((nI n7), (nI cq), u_20, u_21, u_22, rf), rfl, by rw [ALK_in hn1 hn2 hc hk, if_neg c_23, if_pos ((fsm_m1 hc hn1).mp (by rw [← hsol 0 hn1]; exact e_27.symm.trans c_28))], by rw [ht]; exact hP9, va_K.moved hW.alike hK, hD9⟩, hS.F ht⟩) hS.2.2 dX11_alike_89
            · refine lv_ldc hx hb hown (hts _ (gw kw_507 rfl)) dX11_alike_40 ?_
              refine lv_aload_n hx hb dX11_alike_42 rfl (lv_at hl 0 rfl) ?_
              refine lv_bipush (v := -6) hx hb dX11_alike_43 (by decide) ?_
              have hpd9 := pdf_N (cx := [oX11 h0 xp xtp xn xt xk xl xc xo xto xr xch ts ik st, cI aC xr 7 rf]) hP hD hS hA [0, 8] (by decide) rfl
              have hPc := hpd9.1
              have hDc := hpd9.2.1
              have hFc := hpd9.2.2
              clear hpd9
              refine va_calli (va_runV (As := [Value.int (-6)]) (rest := [Value.int 1000000000]) ⟨hx, hb, hml, hown, hts⟩ (c_X11_refuse l dC dI aC H.size h0 xp xtp xn xt xk xl xc xo xto xr xch ts ik st (-6) 6 rf (by decide) (by decide) (by decide) (by unfold vp_in; decide)) ⟨(callB_of 1 hts (gG kw_276) rfl rfl rfl (hts _ (gw kw_1 rfl)) (hts _ (gw kw_273 rfl)) hd_X11_refuse ⟨Nat.le_of_ble_eq_true rfl, Nat.le_of_ble_eq_true rfl⟩), (hts _ (gw kw_275 rfl)), (hts _ (gw ks_0 rfl))⟩ ⟨fb_std, va_recv (q := (RX11, TX11, 14)) hK hPc (ci := 11) (q0 := 0) rfl rfl, pre_std hPc hK hDc hN⟩ rfl rfl hl.1 rfl (lv_room (Nat.le_of_ble_eq_true rfl)) dX11_alike_45 ⟨Nat.le_of_ble_eq_true rfl, Nat.le_of_ble_eq_true rfl⟩) hS (fun q _ h => hFc q h) hFc (fun x_29 u9 t9 H1 locs ht hvm hw_29 hB hz1 hk1 hS => ?_)
              obtain ⟨u_30, rfl⟩ : ∃ z, z = u9 := ⟨_, rfl⟩
              obtain ⟨hP1, hK1, hD1⟩ := hB
              rw [ht] at hP1
              clear hK1
              try dsimp only at hw_29
              have hpd9 : PDx (dC, dI) classes A H1 [oX4 xn ek ef ew ep es (nI n) (nI sn) dn, cI aC es 5 stf, oX2 xc cs ca cf k0 z1 co, cI aC cs 60 sf, cI aC ca 60 af, cI aC cf 60 of, cO k0 0 [], oX11 h0 xp xtp xn xt xk xl xc xo xto xr xch ts ik st, cI aC xr 7 u_30] := jn_N (wr := [oX4 xn ek ef ew ep es (nI n) (nI sn) dn, cI aC es 5 stf, oX2 xc cs ca cf k0 z1 co, cI aC cs 60 sf, cI aC ca 60 af, cI aC cf 60 of, cO k0 0 []]) hFc hk1 hP1 hD1 hP hD [0, 8] [1, 2, 3, 4, 5, 6, 7] rfl rfl (by decide) (by decide)
              have hP := hpd9.1
              have hD := hpd9.2
              clear hpd9
              generalize H1 = H at hP hS ⊢
              clear hPc hDc hFc hz1 hk1 hP1 hD1 ht hvm
              obtain ⟨hv9, -⟩ := hw_29
              refine lv_isub hx hb dX11_alike_48 ?_
              refine lv_topi (fun x_31 e_31 => ?_)
              have hpd9 := pd_N (cx := [oX11 h0 xp xtp xn xt xk xl xc xo xto xr xch ts ik st, oX4 xn ek ef ew ep es (nI n) (nI sn) dn, cI aC es 5 stf, oX2 xc cs ca cf k0 z1 co, cI aC cs 60 sf, cI aC ca 60 af, cI aC cf 60 of, cO k0 0 [], cI aC xr 7 u_30]) hP hD [7, 0, 1, 2, 3, 4, 5, 6, 8] (by decide) rfl
              have hP9 := hpd9.1
              have hD9 := hpd9.2
              refine W.widen (k := 0) (n := 0) (by omega) (by omega) ?_
              exact W.iret (v := x_31) hx hb hr (fun t ht hW => ⟨⟨x_31, (z1, co, sf, af, of, u_30), rfl, by rw [e_31, hv9, alk_6 c_1 c_5 c_9 (Or.inr (Or.inr (Int32.not_lt.mp c_18)))]; rfl, by rw [ht]; exact hP9, va_K.moved hW.alike hK, hD9⟩, hS.F ht⟩) hS.2.2 dX11_alike_49
      · refine lv_ldc hx hb hown (hts _ (gw kw_507 rfl)) dX11_alike_13 ?_
        refine lv_aload_n hx hb dX11_alike_15 rfl (lv_at hl 0 rfl) ?_
        refine lv_bipush (v := -4) hx hb dX11_alike_16 (by decide) ?_
        have hpd9 := pdf_N (cx := [oX11 h0 xp xtp xn xt xk xl xc xo xto xr xch ts ik st, cI aC xr 7 rf]) hP hD hS hA [0, 8] (by decide) rfl
        have hPc := hpd9.1
        have hDc := hpd9.2.1
        have hFc := hpd9.2.2
        clear hpd9
        refine va_calli (va_runV (As := [Value.int (-4)]) (rest := [Value.int 1000000000]) ⟨hx, hb, hml, hown, hts⟩ (c_X11_refuse l dC dI aC H.size h0 xp xtp xn xt xk xl xc xo xto xr xch ts ik st (-4) 4 rf (by decide) (by decide) (by decide) (by unfold vp_in; decide)) ⟨(callB_of 1 hts (gG kw_276) rfl rfl rfl (hts _ (gw kw_1 rfl)) (hts _ (gw kw_273 rfl)) hd_X11_refuse ⟨Nat.le_of_ble_eq_true rfl, Nat.le_of_ble_eq_true rfl⟩), (hts _ (gw kw_275 rfl)), (hts _ (gw ks_0 rfl))⟩ ⟨fb_std, va_recv (q := (RX11, TX11, 14)) hK hPc (ci := 11) (q0 := 0) rfl rfl, pre_std hPc hK hDc hN⟩ rfl rfl hl.1 rfl (lv_room (Nat.le_of_ble_eq_true rfl)) dX11_alike_18 ⟨Nat.le_of_ble_eq_true rfl, Nat.le_of_ble_eq_true rfl⟩) hS (fun q _ h => hFc q h) hFc (fun x_32 u9 t9 H1 locs ht hvm hw_32 hB hz1 hk1 hS => ?_)
        obtain ⟨u_33, rfl⟩ : ∃ z, z = u9 := ⟨_, rfl⟩
        obtain ⟨hP1, hK1, hD1⟩ := hB
        rw [ht] at hP1
        clear hK1
        try dsimp only at hw_32
        have hpd9 : PDx (dC, dI) classes A H1 [oX4 xn ek ef ew ep es (nI n) (nI sn) dn, cI aC es 5 stf, oX2 xc cs ca cf k0 z1 co, cI aC cs 60 sf, cI aC ca 60 af, cI aC cf 60 of, cO k0 0 [], oX11 h0 xp xtp xn xt xk xl xc xo xto xr xch ts ik st, cI aC xr 7 u_33] := jn_N (wr := [oX4 xn ek ef ew ep es (nI n) (nI sn) dn, cI aC es 5 stf, oX2 xc cs ca cf k0 z1 co, cI aC cs 60 sf, cI aC ca 60 af, cI aC cf 60 of, cO k0 0 []]) hFc hk1 hP1 hD1 hP hD [0, 8] [1, 2, 3, 4, 5, 6, 7] rfl rfl (by decide) (by decide)
        have hP := hpd9.1
        have hD := hpd9.2
        clear hpd9
        generalize H1 = H at hP hS ⊢
        clear hPc hDc hFc hz1 hk1 hP1 hD1 ht hvm
        obtain ⟨hv9, -⟩ := hw_32
        refine lv_isub hx hb dX11_alike_21 ?_
        refine lv_topi (fun x_34 e_34 => ?_)
        have hpd9 := pd_N (cx := [oX11 h0 xp xtp xn xt xk xl xc xo xto xr xch ts ik st, oX4 xn ek ef ew ep es (nI n) (nI sn) dn, cI aC es 5 stf, oX2 xc cs ca cf k0 z1 co, cI aC cs 60 sf, cI aC ca 60 af, cI aC cf 60 of, cO k0 0 [], cI aC xr 7 u_33]) hP hD [7, 0, 1, 2, 3, 4, 5, 6, 8] (by decide) rfl
        have hP9 := hpd9.1
        have hD9 := hpd9.2
        refine W.widen (k := 0) (n := 0) (by omega) (by omega) ?_
        exact W.iret (v := x_34) hx hb hr (fun t ht hW => ⟨⟨x_34, (z1, co, sf, af, of, u_33), rfl, by rw [e_34, hv9, alk_4 (Or.inr (Or.inr (Int32.not_le.mp c_9)))]; rfl, by rw [ht]; exact hP9, va_K.moved hW.alike hK, hD9⟩, hS.F ht⟩) hS.2.2 dX11_alike_22
