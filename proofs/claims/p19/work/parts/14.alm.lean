/-! the parting among many alike men: what class and reference both compute -/
def iI (z : Int) : Int32 := Int32.ofInt z
def iF (S : Nat → Int) : Nat → Int32 := fun j => iI (S j)
def nF (Q : Nat → Nat) : Nat → Int32 := fun j => nI (Q j)
def sm (z : Int) : Prop := -1000000000 ≤ z ∧ z ≤ 1000000000
theorem iI_toInt {z : Int} (h : sm z) : (iI z).toInt = z := Int32.toInt_ofInt_of_le (by unfold sm at h; omega) (by unfold sm at h; omega)
theorem iI_add (a b : Int) : iI a + iI b = iI (a + b) := (Int32.ofInt_add a b).symm
theorem iI_sub (a b : Int) : iI a - iI b = iI (a - b) := (Int32.ofInt_sub a b).symm
theorem iI_mul (a b : Int) : iI a * iI b = iI (a * b) := (Int32.ofInt_mul a b).symm
theorem iI_lt {a b : Int} (ha : sm a) (hb : sm b) : iI a < iI b ↔ a < b := by rw [Int32.lt_iff_toInt_lt, iI_toInt ha, iI_toInt hb]
theorem iI_le {a b : Int} (ha : sm a) (hb : sm b) : iI a ≤ iI b ↔ a ≤ b := by rw [Int32.le_iff_toInt_le, iI_toInt ha, iI_toInt hb]
theorem iI_eq {a b : Int} (ha : sm a) (hb : sm b) : iI a = iI b ↔ a = b := by rw [← Int32.toInt_inj, iI_toInt ha, iI_toInt hb]
theorem nI_iI (n : Nat) : nI n = iI n := Int32.ofInt_eq_ofNat.symm
theorem iI_0 : iI 0 = 0 := rfl
theorem iI_1 : iI 1 = 1 := rfl
theorem iI_m1 : iI (-1) = -1 := rfl
theorem sm0 : sm 0 := by unfold sm; omega
theorem smN {n : Nat} (h : n ≤ 1000000000) : sm n := by unfold sm; omega
theorem nF_iF (Q : Nat → Nat) : nF Q = iF (fun j => (Q j : Int)) := funext fun j => nI_iI (Q j)
theorem upd_iF (S : Nat → Int) (k : Nat) (z : Int) : upd (iF S) k (iI z) = iF (fun j => if j = k then z else S j) := by
  funext j
  unfold upd iF
  dsimp only
  by_cases h : j = k
  · rw [if_pos h, if_pos h]
  · rw [if_neg h, if_neg h]
theorem upd_nF (S : Nat → Nat) (k : Nat) (z : Nat) : upd (nF S) k (nI z) = nF (fun j => if j = k then z else S j) := by
  funext j
  unfold upd nF
  dsimp only
  by_cases h : j = k
  · rw [if_pos h, if_pos h]
  · rw [if_neg h, if_neg h]
def ask (tie : Int32) (s : Int) : Nat := if tie = 1 then s.toNat else (s + 1).toNat
def cn (p : Nat → Bool) (a : Nat) : Nat → Nat
  | 0 => 0
  | k + 1 => cn p a k + (if p (a + k) = true then 1 else 0)
def cv (Q : Nat → Nat) (a y v : Nat) : Nat := cn (fun j => decide (Q j = v)) a y
def cu (Q : Nat → Nat) (a y : Nat) : Nat → Nat
  | 0 => 0
  | v + 1 => cu Q a y v + cv Q a y (v + 1)
def co (Q : Nat → Nat) (a y m : Nat) : Nat → Nat
  | 0 => 0
  | v + 1 => co Q a y m v + (v + 1) * min (cv Q a y (v + 1)) (m - cu Q a y v)
def nd (law : Int32) (left : Nat) : Nat := if law = 0 then (left + 1) / 2 else if law = 1 then left / 2 + 1 else (2 * left + 2) / 3
def stp (Q : Nat → Nat) (a y m c v : Nat) : Bool := decide (m ≤ cu Q a y v) || decide (c < co Q a y m v)
def vsr (p : Nat → Bool) : Nat → Nat → Nat
  | 0, v => v
  | f + 1, v => if p v = true then v else vsr p f (v + 1)
def rk (Q : Nat → Nat) (a j : Nat) : Nat := cn (fun k => decide (Q k = Q j)) a (j - a)
def OF (Q : Nat → Nat) (a y m v j : Nat) : Nat := if a ≤ j ∧ j < a + y ∧ 0 < Q j ∧ Q j ≤ v ∧ rk Q a j < m - cu Q a y (Q j - 1) then Q j else 0
/-- how many votes are to be bought -/
def mm (law : Int32) (Q : Nat → Nat) (n i : Nat) : Nat := nd law (n - i) - (1 + cv Q (i + 1) (n - 1 - i) 0)
def vv (law : Int32) (Q : Nat → Nat) (c n i : Nat) : Nat := vsr (stp Q (i + 1) (n - 1 - i) (mm law Q n i) c) 101 0
def cc1 (law : Int32) (Q : Nat → Nat) (c n i : Nat) : Nat := co Q (i + 1) (n - 1 - i) (mm law Q n i) (vv law Q c n i)
def STG (law tie : Int32) (c n i : Nat) (S : Nat → Int) : Nat → Int := fun j =>
  if cc1 law (fun j => ask tie (S j)) c n i ≤ c then
    (if j = i then (c : Int) - cc1 law (fun j => ask tie (S j)) c n i else (OF (fun j => ask tie (S j)) (i + 1) (n - 1 - i) (mm law (fun j => ask tie (S j)) n i) (vv law (fun j => ask tie (S j)) c n i) j : Int))
  else (if j = i then -1 else S j)
def FS (law tie : Int32) (c n : Nat) : Nat → Nat → Int
  | 0 => fun _ => 0
  | k + 1 => STG law tie c n (n - (k + 1)) (FS law tie c n k)
theorem cn_congr {p q : Nat → Bool} {a : Nat} : ∀ {k : Nat}, (∀ j, a ≤ j → j < a + k → p j = q j) → cn p a k = cn q a k
  | 0, _ => rfl
  | k + 1, h => by
    unfold cn
    rw [cn_congr (fun j h1 h2 => h j h1 (by omega)), h (a + k) (by omega) (by omega)]
theorem cn_le {p : Nat → Bool} {a : Nat} : ∀ {k : Nat}, cn p a k ≤ k
  | 0 => Nat.le_refl 0
  | k + 1 => by
    unfold cn
    have := cn_le (p := p) (a := a) (k := k)
    split <;> omega
theorem cn_mono {p : Nat → Bool} {a k : Nat} : ∀ {d : Nat}, cn p a k ≤ cn p a (k + d)
  | 0 => Nat.le_refl _
  | d + 1 => by
    have := cn_mono (p := p) (a := a) (k := k) (d := d)
    show cn p a k ≤ cn p a (k + d) + _
    omega
theorem cn_pos {p : Nat → Bool} {a k j : Nat} (h1 : a ≤ j) (h2 : j < a + k) (hp : p j = true) : cn p a (j - a) < cn p a k := by
  have e : k = (j - a + 1) + (k - (j - a) - 1) := by omega
  rw [e]
  refine Nat.lt_of_lt_of_le ?_ cn_mono
  show cn p a (j - a) < cn p a (j - a) + (if p (a + (j - a)) = true then 1 else 0)
  rw [show a + (j - a) = j by omega, if_pos hp]
  omega
theorem cn_ex {p : Nat → Bool} {a : Nat} : ∀ {k : Nat}, 0 < cn p a k → ∃ j, a ≤ j ∧ j < a + k ∧ p j = true
  | 0, h => absurd h (Nat.lt_irrefl 0)
  | k + 1, h => by
    by_cases hp : p (a + k) = true
    · exact ⟨a + k, by omega, by omega, hp⟩
    · have h1 : cn p a (k + 1) = cn p a k + (if p (a + k) = true then 1 else 0) := rfl
      rw [h1, if_neg hp] at h
      obtain ⟨j, q1, q2, q3⟩ := cn_ex (p := p) (a := a) (k := k) (by omega)
      exact ⟨j, q1, by omega, q3⟩
theorem cn_all {p : Nat → Bool} {a : Nat} : ∀ {k : Nat}, (∀ j, a ≤ j → j < a + k → p j = true) → cn p a k = k
  | 0, _ => rfl
  | k + 1, h => by
    show cn p a k + _ = k + 1
    rw [cn_all (fun j h1 h2 => h j h1 (by omega)), if_pos (h (a + k) (by omega) (by omega))]
theorem cn_sum {Q : Nat → Nat} {a v : Nat} : ∀ {k : Nat}, cn (fun j => decide (Q j ≤ v)) a k + cn (fun j => decide (Q j = v + 1)) a k = cn (fun j => decide (Q j ≤ v + 1)) a k
  | 0 => rfl
  | k + 1 => by
    have := cn_sum (Q := Q) (a := a) (v := v) (k := k)
    show cn _ a k + (if decide (Q (a + k) ≤ v) = true then 1 else 0) + (cn _ a k + (if decide (Q (a + k) = v + 1) = true then 1 else 0)) = cn _ a k + (if decide (Q (a + k) ≤ v + 1) = true then 1 else 0)
    by_cases h1 : Q (a + k) ≤ v
    · rw [if_pos (decide_eq_true h1), if_neg (by simp; omega), if_pos (decide_eq_true (by omega))]
      omega
    · by_cases h2 : Q (a + k) = v + 1
      · rw [if_neg (by simpa using h1), if_pos (decide_eq_true h2), if_pos (decide_eq_true (by omega))]
        omega
      · rw [if_neg (by simpa using h1), if_neg (by simpa using h2), if_neg (by simp; omega)]
        omega
theorem cu_sum {Q : Nat → Nat} {a y : Nat} : ∀ {v : Nat}, cv Q a y 0 + cu Q a y v = cn (fun j => decide (Q j ≤ v)) a y
  | 0 => by
    show cn _ a y + 0 = _
    rw [Nat.add_zero]
    exact cn_congr fun j _ _ => by simp
  | v + 1 => by
    rw [← cn_sum, ← cu_sum (v := v)]
    show _ + (cu Q a y v + cn _ a y) = _
    omega
theorem cu_100 {Q : Nat → Nat} {a y : Nat} (h : ∀ j, a ≤ j → j < a + y → Q j ≤ 100) : cv Q a y 0 + cu Q a y 100 = y := by
  rw [cu_sum]
  exact cn_all fun j h1 h2 => decide_eq_true (h j h1 h2)
theorem cu_mono {Q : Nat → Nat} {a y v : Nat} : ∀ {d : Nat}, cu Q a y v ≤ cu Q a y (v + d)
  | 0 => Nat.le_refl _
  | d + 1 => by
    have := cu_mono (Q := Q) (a := a) (y := y) (v := v) (d := d)
    show _ ≤ cu Q a y (v + d) + _
    omega
theorem nd_le {law : Int32} {left : Nat} (h : 1 ≤ left) : nd law left ≤ left := by
  unfold nd
  split
  · omega
  · split <;> omega
theorem mm_le {law : Int32} {Q : Nat → Nat} {n i : Nat} (hi : i < n) (h : ∀ j, i < j → j < n → Q j ≤ 100) : mm law Q n i ≤ cu Q (i + 1) (n - 1 - i) 100 := by
  have h1 := cu_100 (Q := Q) (a := i + 1) (y := n - 1 - i) (fun j q1 q2 => h j (by omega) (by omega))
  have h2 := nd_le (law := law) (left := n - i) (by omega)
  unfold mm
  omega
theorem vsr_eq {p : Nat → Bool} {v : Nat} (hp : p v = true) : ∀ {f w : Nat}, w ≤ v → v ≤ w + f → (∀ u, w ≤ u → u < v → p u = false) → vsr p f w = v
  | 0, w, h1, h2, _ => by
    show w = v
    omega
  | f + 1, w, h1, h2, h3 => by
    unfold vsr
    by_cases e : w = v
    · subst e
      rw [if_pos hp]
    · rw [if_neg (by rw [h3 w (Nat.le_refl w) (by omega)]; exact Bool.false_ne_true)]
      exact vsr_eq hp (by omega) (by omega) (fun u q1 q2 => h3 u (by omega) q2)
theorem vv_eq {law : Int32} {Q : Nat → Nat} {c n i v : Nat} (h1 : stp Q (i + 1) (n - 1 - i) (mm law Q n i) c v = true) (h2 : ∀ u, u < v → stp Q (i + 1) (n - 1 - i) (mm law Q n i) c u = false) (h3 : v ≤ 100) : vv law Q c n i = v :=
  vsr_eq h1 (Nat.zero_le v) (by omega) (fun u _ q => h2 u q)
theorem gap {Q : Nat → Nat} {a y m v : Nat} : ∀ {d : Nat}, (∀ j, a ≤ j → j < a + y → v < Q j → v + d < Q j) → cu Q a y (v + d) = cu Q a y v ∧ co Q a y m (v + d) = co Q a y m v
  | 0, _ => ⟨rfl, rfl⟩
  | d + 1, h => by
    obtain ⟨h1, h2⟩ := gap (Q := Q) (a := a) (y := y) (m := m) (v := v) (d := d) (fun j q1 q2 q3 => by have := h j q1 q2 q3; omega)
    have h3 : cv Q a y (v + d + 1) = 0 := by
      rcases Nat.eq_zero_or_pos (cv Q a y (v + d + 1)) with q | q
      · exact q
      · obtain ⟨j, q1, q2, q3⟩ := cn_ex q
        have q4 : Q j = v + d + 1 := by simpa using q3
        have := h j q1 q2 (by omega)
        omega
    refine ⟨?_, ?_⟩
    · show cu Q a y (v + d) + cv Q a y (v + d + 1) = _
      rw [h1, h3]
      rfl
    · show co Q a y m (v + d) + (v + d + 1) * min (cv Q a y (v + d + 1)) _ = _
      rw [h2, h3]
      simp
theorem ask_le {tie : Int32} {s : Int} (h1 : s ≤ 99) : ask tie s ≤ 100 := by
  unfold ask
  split <;> omega
theorem stp_f {Q : Nat → Nat} {a y m c v : Nat} : stp Q a y m c v = false ↔ (cu Q a y v < m ∧ co Q a y m v ≤ c) := by
  unfold stp
  simp
theorem stp_t {Q : Nat → Nat} {a y m c v : Nat} : stp Q a y m c v = true ↔ (m ≤ cu Q a y v ∨ c < co Q a y m v) := by
  unfold stp
  simp
/-- one level more -/
theorem OF_step {Q : Nat → Nat} {a y m v w : Nat} (hvw : v < w) (hg : ∀ j, a ≤ j → j < a + y → v < Q j → w ≤ Q j) : ∀ j, OF Q a y m w j = if a ≤ j ∧ j < a + y ∧ Q j = w ∧ rk Q a j < m - cu Q a y v then w else OF Q a y m v j := by
  intro j
  have hc : cu Q a y (w - 1) = cu Q a y v := by
    have := (gap (Q := Q) (a := a) (y := y) (m := m) (v := v) (d := w - 1 - v) (fun j q1 q2 q3 => by have := hg j q1 q2 q3; omega)).1
    rw [show v + (w - 1 - v) = w - 1 by omega] at this
    exact this
  unfold OF
  by_cases h1 : a ≤ j ∧ j < a + y
  · by_cases h2 : Q j = w
    · by_cases h3 : rk Q a j < m - cu Q a y v
      · rw [if_pos ⟨h1.1, h1.2, by omega, by omega, by rw [h2, hc]; exact h3⟩, if_pos ⟨h1.1, h1.2, h2, h3⟩, h2]
      · rw [if_neg (fun q => h3 (by have := q.2.2.2.2; rw [h2, hc] at this; exact this)), if_neg (fun q => h3 q.2.2.2), if_neg (fun q => by have := q.2.2.2.1; omega)]
    · rw [if_neg (c := a ≤ j ∧ j < a + y ∧ Q j = w ∧ rk Q a j < m - cu Q a y v) (fun q => h2 q.2.2.1)]
      by_cases h3 : v < Q j
      · have := hg j h1.1 h1.2 h3
        rw [if_neg (fun q => by have := q.2.2.2.1; omega), if_neg (fun q => by have := q.2.2.2.1; omega)]
      · by_cases h4 : a ≤ j ∧ j < a + y ∧ 0 < Q j ∧ Q j ≤ v ∧ rk Q a j < m - cu Q a y (Q j - 1)
        · rw [if_pos h4, if_pos ⟨h4.1, h4.2.1, h4.2.2.1, by omega, h4.2.2.2.2⟩]
        · rw [if_neg h4, if_neg (fun q => h4 ⟨q.1, q.2.1, q.2.2.1, by omega, q.2.2.2.2⟩)]
  · rw [if_neg (fun q => h1 ⟨q.1, q.2.1⟩), if_neg (fun q => h1 ⟨q.1, q.2.1⟩), if_neg (fun q => h1 ⟨q.1, q.2.1⟩)]
/-- a level that is not the last is bought whole -/
theorem rk_all {Q : Nat → Nat} {a y m j : Nat} (h1 : a ≤ j) (h2 : j < a + y) (h0 : 0 < Q j) (h3 : cu Q a y (Q j) < m) : rk Q a j < m - cu Q a y (Q j - 1) := by
  have h4 : rk Q a j < cv Q a y (Q j) := cn_pos (p := fun k => decide (Q k = Q j)) h1 h2 (by simp)
  have h5 : cu Q a y (Q j) = cu Q a y (Q j - 1) + cv Q a y (Q j) := by
    obtain ⟨u, hu⟩ : ∃ u, Q j = u + 1 := ⟨Q j - 1, by omega⟩
    rw [hu]
    rfl
  omega
theorem cv_congr {Q R : Nat → Nat} {a y v : Nat} (h : ∀ j, a ≤ j → j < a + y → Q j = R j) : cv Q a y v = cv R a y v := cn_congr fun j h1 h2 => by rw [h j h1 h2]
theorem cu_congr {Q R : Nat → Nat} {a y : Nat} (h : ∀ j, a ≤ j → j < a + y → Q j = R j) : ∀ v, cu Q a y v = cu R a y v
  | 0 => rfl
  | v + 1 => by
    show cu Q a y v + cv Q a y (v + 1) = cu R a y v + cv R a y (v + 1)
    rw [cu_congr h v, cv_congr h]
theorem co_congr {Q R : Nat → Nat} {a y m : Nat} (h : ∀ j, a ≤ j → j < a + y → Q j = R j) : ∀ v, co Q a y m v = co R a y m v
  | 0 => rfl
  | v + 1 => by
    show co Q a y m v + (v + 1) * min (cv Q a y (v + 1)) (m - cu Q a y v) = co R a y m v + (v + 1) * min (cv R a y (v + 1)) (m - cu R a y v)
    rw [co_congr h v, cv_congr h, cu_congr h v]
theorem rk_congr {Q R : Nat → Nat} {a y j : Nat} (h : ∀ j, a ≤ j → j < a + y → Q j = R j) (h1 : a ≤ j) (h2 : j < a + y) : rk Q a j = rk R a j := cn_congr fun k q1 q2 => by rw [h k q1 (by omega), h j h1 h2]
theorem OF_congr {Q R : Nat → Nat} {a y m v : Nat} (h : ∀ j, a ≤ j → j < a + y → Q j = R j) (j : Nat) : OF Q a y m v j = OF R a y m v j := by
  unfold OF
  by_cases h1 : a ≤ j ∧ j < a + y
  · rw [h j h1.1 h1.2, rk_congr h h1.1 h1.2, cu_congr h]
  · rw [if_neg (fun q => h1 ⟨q.1, q.2.1⟩), if_neg (fun q => h1 ⟨q.1, q.2.1⟩)]
theorem mm_congr {law : Int32} {Q R : Nat → Nat} {n i : Nat} (h : ∀ j, i + 1 ≤ j → j < i + 1 + (n - 1 - i) → Q j = R j) : mm law Q n i = mm law R n i := by
  unfold mm
  rw [cv_congr h]
theorem vv_congr {law : Int32} {Q R : Nat → Nat} {c n i : Nat} (h : ∀ j, i + 1 ≤ j → j < i + 1 + (n - 1 - i) → Q j = R j) : vv law Q c n i = vv law R c n i := by
  unfold vv
  rw [mm_congr h]
  congr 1
  funext v
  unfold stp
  rw [cu_congr h, co_congr h]
theorem cc1_congr {law : Int32} {Q R : Nat → Nat} {c n i : Nat} (h : ∀ j, i + 1 ≤ j → j < i + 1 + (n - 1 - i) → Q j = R j) : cc1 law Q c n i = cc1 law R c n i := by
  unfold cc1
  rw [mm_congr h, vv_congr h, co_congr h]
theorem STG_congr {law tie : Int32} {c n i : Nat} {S S' : Nat → Int} (h : ∀ j, i < j → j < n → S j = S' j) : ∀ j, i ≤ j → j < n → STG law tie c n i S j = STG law tie c n i S' j := by
  intro j h1 h2
  have hq : ∀ j, i + 1 ≤ j → j < i + 1 + (n - 1 - i) → (fun j => ask tie (S j)) j = (fun j => ask tie (S' j)) j := fun j q1 q2 => by
    show ask tie (S j) = ask tie (S' j)
    rw [h j (by omega) (by omega)]
  unfold STG
  rw [cc1_congr hq, mm_congr hq, vv_congr hq, OF_congr hq]
  by_cases e : j = i
  · simp only [e, if_true]
  · simp only [if_neg e, h j (by omega) h2]
theorem co_mono {Q : Nat → Nat} {a y m v : Nat} : ∀ {d : Nat}, co Q a y m v ≤ co Q a y m (v + d)
  | 0 => Nat.le_refl _
  | d + 1 => by
    have := co_mono (Q := Q) (a := a) (y := y) (m := m) (v := v) (d := d)
    show _ ≤ co Q a y m (v + d) + _
    omega
theorem OF_co {Q : Nat → Nat} {a y m v j : Nat} : OF Q a y m v j ≤ co Q a y m v := by
  unfold OF
  split
  · rename_i h
    obtain ⟨h1, h2, h3, h4, h5⟩ := h
    obtain ⟨u, hu⟩ : ∃ u, Q j = u + 1 := ⟨Q j - 1, by omega⟩
    have h6 : 0 < cv Q a y (u + 1) := by
      have := cn_pos (p := fun k => decide (Q k = Q j)) h1 h2 (by simp)
      rw [hu] at this
      unfold cv
      omega
    rw [hu] at h5
    have h7 : 1 ≤ min (cv Q a y (u + 1)) (m - cu Q a y u) := by
      have : u + 1 - 1 = u := by omega
      rw [this] at h5
      omega
    have h8 : co Q a y m (u + 1) = co Q a y m u + (u + 1) * min (cv Q a y (u + 1)) (m - cu Q a y u) := rfl
    have h9 : (u + 1) * 1 ≤ (u + 1) * min (cv Q a y (u + 1)) (m - cu Q a y u) := Nat.mul_le_mul_left _ h7
    have h10 := co_mono (Q := Q) (a := a) (y := y) (m := m) (v := u + 1) (d := v - (u + 1))
    rw [show u + 1 + (v - (u + 1)) = v by omega] at h10
    omega
  · omega
theorem STG_rng {law tie : Int32} {c n i : Nat} {S : Nat → Int} (hc : c ≤ 99) (h : ∀ j, i < j → j < n → -1 ≤ S j ∧ S j ≤ 99) : ∀ j, i ≤ j → j < n → -1 ≤ STG law tie c n i S j ∧ STG law tie c n i S j ≤ 99 := by
  intro j h1 h2
  unfold STG
  by_cases e : j = i
  · subst e
    split
    · rw [if_pos rfl]
      omega
    · rw [if_pos rfl]
      omega
  · split
    · rename_i hcc
      have := OF_co (Q := fun j => ask tie (S j)) (a := i + 1) (y := n - 1 - i) (m := mm law (fun j => ask tie (S j)) n i) (v := vv law (fun j => ask tie (S j)) c n i) (j := j)
      unfold cc1 at hcc
      omega
    · exact h j (by omega) h2
theorem FS_rng {law tie : Int32} {c n : Nat} (hc : c ≤ 99) : ∀ k, k ≤ n → ∀ j, n - k ≤ j → j < n → -1 ≤ FS law tie c n k j ∧ FS law tie c n k j ≤ 99
  | 0, _, j, h1, h2 => by omega
  | k + 1, hk, j, h1, h2 => STG_rng hc (fun j q1 q2 => FS_rng hc k (by omega) j (by omega) q2) j h1 h2
theorem askP {z : Int} (hz : sm z) (h : ¬ iI z ≤ 0) : iI z = nI z.toNat := by
  rw [← iI_0, iI_le hz sm0] at h
  rw [nI_iI, Int.toNat_of_nonneg (by omega)]
theorem askN {z : Int} (hz : sm z) (h : iI z ≤ 0) : (0 : Int32) = nI z.toNat := by
  rw [← iI_0, iI_le hz sm0] at h
  rw [show z.toNat = 0 by omega]
  rfl
theorem nI_0' : nI 0 = 0 := rfl
theorem en_0 {a y : Nat} (ha : a ≤ 1000) (hy : y ≤ 1000) : (2 : Int32) * nI y < nI a ↔ ¬ (a + 1) / 2 ≤ y := by
  rw [show (2 : Int32) * nI y = nI (2 * y) from pk_mul 2 y, nI_ltI (by omega) (by omega)]
  omega
theorem en_1 {a y : Nat} (ha : a ≤ 1000) (hy : y ≤ 1000) : (2 : Int32) * nI y ≤ nI a ↔ ¬ a / 2 + 1 ≤ y := by
  rw [show (2 : Int32) * nI y = nI (2 * y) from pk_mul 2 y, nI_leI (by omega) (by omega)]
  omega
theorem en_2 {a y : Nat} (ha : a ≤ 1000) (hy : y ≤ 1000) : (3 : Int32) * nI y < 2 * nI a ↔ ¬ (2 * a + 2) / 3 ≤ y := by
  rw [show (3 : Int32) * nI y = nI (3 * y) from pk_mul 3 y, show (2 : Int32) * nI a = nI (2 * a) from pk_mul 2 a, nI_ltI (by omega) (by omega)]
  omega
