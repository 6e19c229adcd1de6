section
/-! 14.alm -/
/-! the parting among many alike men: what class and reference both compute -/
def iI (z : Int) : Int32 := Int32.ofInt z
def iF (S : Nat → Int) : Nat → Int32 := fun j => iI (S j)
def nF (Q : Nat → Nat) : Nat → Int32 := fun j => nI (Q j)
def sm (z : Int) : Prop := -1000000000 ≤ z ∧ z ≤ 1000000000
theorem iI_toInt {z : Int} (h : sm z) : (iI z).toInt = z := Int32.toInt_ofInt_of_le (by unfold sm at h; omega) (by unfold sm at h; omega)
theorem iI_add (a b : Int) : iI a + iI b = iI (a + b) := (Int32.ofInt_add a b).symm
theorem iI_sub (a b : Int) : iI a - iI b = iI (a - b) := (Int32.ofInt_sub a b).symm
theorem iI_mul (a b : Int) : iI a * iI b = iI (a * b) := (Int32.ofInt_mul a b).symm
theorem iI_lt {a b : Int} (ha : sm a) (hb : sm b) : iI a < iI b ↔ a < b := by rw [Int32.lt_iff_toInt_lt, iI_toInt ha, iI_toInt hb]
theorem iI_le {a b : Int} (ha : sm a) (hb : sm b) : iI a ≤ iI b ↔ a ≤ b := by rw [Int32.le_iff_toInt_le, iI_toInt ha, iI_toInt hb]
theorem iI_eq {a b : Int} (ha : sm a) (hb : sm b) : iI a = iI b ↔ a = b := by rw [← Int32.toInt_inj, iI_toInt ha, iI_toInt hb]
theorem nI_iI (n : Nat) : nI n = iI n := Int32.ofInt_eq_ofNat.symm
theorem iI_0 : iI 0 = 0 := rfl
theorem iI_1 : iI 1 = 1 := rfl
theorem iI_m1 : iI (-1) = -1 := rfl
theorem sm0 : sm 0 := by unfold sm; omega
theorem smN {n : Nat} (h : n ≤ 1000000000) : sm n := by unfold sm; omega
theorem nF_iF (Q : Nat → Nat) : nF Q = iF (fun j => (Q j : Int)) := funext fun j => nI_iI (Q j)
theorem upd_iF (S : Nat → Int) (k : Nat) (z : Int) : upd (iF S) k (iI z) = iF (fun j => if j = k then z else S j) := by
  funext j
  unfold upd iF
  dsimp only
  by_cases h : j = k
  · rw [if_pos h, if_pos h]
  · rw [if_neg h, if_neg h]
theorem upd_nF (S : Nat → Nat) (k : Nat) (z : Nat) : upd (nF S) k (nI z) = nF (fun j => if j = k then z else S j) := by
  funext j
  unfold upd nF
  dsimp only
  by_cases h : j = k
  · rw [if_pos h, if_pos h]
  · rw [if_neg h, if_neg h]
def ask (tie : Int32) (s : Int) : Nat := if tie = 1 then s.toNat else (s + 1).toNat
def cn (p : Nat → Bool) (a : Nat) : Nat → Nat
  | 0 => 0
  | k + 1 => cn p a k + (if p (a + k) = true then 1 else 0)
def cv (Q : Nat → Nat) (a y v : Nat) : Nat := cn (fun j => decide (Q j = v)) a y
def cu (Q : Nat → Nat) (a y : Nat) : Nat → Nat
  | 0 => 0
  | v + 1 => cu Q a y v + cv Q a y (v + 1)
def co (Q : Nat → Nat) (a y m : Nat) : Nat → Nat
  | 0 => 0
  | v + 1 => co Q a y m v + (v + 1) * min (cv Q a y (v + 1)) (m - cu Q a y v)
def nd (law : Int32) (left : Nat) : Nat := if law = 0 then (left + 1) / 2 else if law = 1 then left / 2 + 1 else (2 * left + 2) / 3
def stp (Q : Nat → Nat) (a y m c v : Nat) : Bool := decide (m ≤ cu Q a y v) || decide (c < co Q a y m v)
def vsr (p : Nat → Bool) : Nat → Nat → Nat
  | 0, v => v
  | f + 1, v => if p v = true then v else vsr p f (v + 1)
def rk (Q : Nat → Nat) (a j : Nat) : Nat := cn (fun k => decide (Q k = Q j)) a (j - a)
def OF (Q : Nat → Nat) (a y m v j : Nat) : Nat := if a ≤ j ∧ j < a + y ∧ 0 < Q j ∧ Q j ≤ v ∧ rk Q a j < m - cu Q a y (Q j - 1) then Q j else 0
/-- how many votes are to be bought -/
def mm (law : Int32) (Q : Nat → Nat) (n i : Nat) : Nat := nd law (n - i) - (1 + cv Q (i + 1) (n - 1 - i) 0)
def vv (law : Int32) (Q : Nat → Nat) (c n i : Nat) : Nat := vsr (stp Q (i + 1) (n - 1 - i) (mm law Q n i) c) 101 0
def cc1 (law : Int32) (Q : Nat → Nat) (c n i : Nat) : Nat := co Q (i + 1) (n - 1 - i) (mm law Q n i) (vv law Q c n i)
def STG (law tie : Int32) (c n i : Nat) (S : Nat → Int) : Nat → Int := fun j =>
  if cc1 law (fun j => ask tie (S j)) c n i ≤ c then
    (if j = i then (c : Int) - cc1 law (fun j => ask tie (S j)) c n i else (OF (fun j => ask tie (S j)) (i + 1) (n - 1 - i) (mm law (fun j => ask tie (S j)) n i) (vv law (fun j => ask tie (S j)) c n i) j : Int))
  else (if j = i then -1 else S j)
def FS (law tie : Int32) (c n : Nat) : Nat → Nat → Int
  | 0 => fun _ => 0
  | k + 1 => STG law tie c n (n - (k + 1)) (FS law tie c n k)
theorem cn_congr {p q : Nat → Bool} {a : Nat} : ∀ {k : Nat}, (∀ j, a ≤ j → j < a + k → p j = q j) → cn p a k = cn q a k
  | 0, _ => rfl
  | k + 1, h => by
    unfold cn
    rw [cn_congr (fun j h1 h2 => h j h1 (by omega)), h (a + k) (by omega) (by omega)]
theorem cn_le {p : Nat → Bool} {a : Nat} : ∀ {k : Nat}, cn p a k ≤ k
  | 0 => Nat.le_refl 0
  | k + 1 => by
    unfold cn
    have := cn_le (p := p) (a := a) (k := k)
    split <;> omega
theorem cn_mono {p : Nat → Bool} {a k : Nat} : ∀ {d : Nat}, cn p a k ≤ cn p a (k + d)
  | 0 => Nat.le_refl _
  | d + 1 => by
    have := cn_mono (p := p) (a := a) (k := k) (d := d)
    show cn p a k ≤ cn p a (k + d) + _
    omega
theorem cn_pos {p : Nat → Bool} {a k j : Nat} (h1 : a ≤ j) (h2 : j < a + k) (hp : p j = true) : cn p a (j - a) < cn p a k := by
  have e : k = (j - a + 1) + (k - (j - a) - 1) := by omega
  rw [e]
  refine Nat.lt_of_lt_of_le ?_ cn_mono
  show cn p a (j - a) < cn p a (j - a) + (if p (a + (j - a)) = true then 1 else 0)
  rw [show a + (j - a) = j by omega, if_pos hp]
  omega
theorem cn_ex {p : Nat → Bool} {a : Nat} : ∀ {k : Nat}, 0 < cn p a k → ∃ j, a ≤ j ∧ j < a + k ∧ p j = true
  | 0, h => absurd h (Nat.lt_irrefl 0)
  | k + 1, h => by
    by_cases hp : p (a + k) = true
    · exact ⟨a + k, by omega, by omega, hp⟩
    · have h1 : cn p a (k + 1) = cn p a k + (if p (a + k) = true then 1 else 0) := rfl
      rw [h1, if_neg hp] at h
      obtain ⟨j, q1, q2, q3⟩ := cn_ex (p := p) (a := a) (k := k) (by omega)
      exact ⟨j, q1, by omega, q3⟩
theorem cn_all {p : Nat → Bool} {a : Nat} : ∀ {k : Nat}, (∀ j, a ≤ j → j < a + k → p j = true) → cn p a k = k
  | 0, _ => rfl
  | k + 1, h => by
    show cn p a k + _ = k + 1
    rw [cn_all (fun j h1 h2 => h j h1 (by omega)), if_pos (h (a + k) (by omega) (by omega))]
theorem cn_sum {Q : Nat → Nat} {a v : Nat} : ∀ {k : Nat}, cn (fun j => decide (Q j ≤ v)) a k + cn (fun j => decide (Q j = v + 1)) a k = cn (fun j => decide (Q j ≤ v + 1)) a k
  | 0 => rfl
  | k + 1 => by
    have := cn_sum (Q := Q) (a := a) (v := v) (k := k)
    show cn _ a k + (if decide (Q (a + k) ≤ v) = true then 1 else 0) + (cn _ a k + (if decide (Q (a + k) = v + 1) = true then 1 else 0)) = cn _ a k + (if decide (Q (a + k) ≤ v + 1) = true then 1 else 0)
    by_cases h1 : Q (a + k) ≤ v
    · rw [if_pos (decide_eq_true h1), if_neg (by simp; omega), if_pos (decide_eq_true (by omega))]
      omega
    · by_cases h2 : Q (a + k) = v + 1
      · rw [if_neg (by simpa using h1), if_pos (decide_eq_true h2), if_pos (decide_eq_true (by omega))]
        omega
      · rw [if_neg (by simpa using h1), if_neg (by simpa using h2), if_neg (by simp; omega)]
        omega
theorem cu_sum {Q : Nat → Nat} {a y : Nat} : ∀ {v : Nat}, cv Q a y 0 + cu Q a y v = cn (fun j => decide (Q j ≤ v)) a y
  | 0 => by
    show cn _ a y + 0 = _
    rw [Nat.add_zero]
    exact cn_congr fun j _ _ => by simp
  | v + 1 => by
    rw [← cn_sum, ← cu_sum (v := v)]
    show _ + (cu Q a y v + cn _ a y) = _
    omega
theorem cu_100 {Q : Nat → Nat} {a y : Nat} (h : ∀ j, a ≤ j → j < a + y → Q j ≤ 100) : cv Q a y 0 + cu Q a y 100 = y := by
  rw [cu_sum]
  exact cn_all fun j h1 h2 => decide_eq_true (h j h1 h2)
theorem cu_mono {Q : Nat → Nat} {a y v : Nat} : ∀ {d : Nat}, cu Q a y v ≤ cu Q a y (v + d)
  | 0 => Nat.le_refl _
  | d + 1 => by
    have := cu_mono (Q := Q) (a := a) (y := y) (v := v) (d := d)
    show _ ≤ cu Q a y (v + d) + _
    omega
theorem nd_le {law : Int32} {left : Nat} (h : 1 ≤ left) : nd law left ≤ left := by
  unfold nd
  split
  · omega
  · split <;> omega
theorem mm_le {law : Int32} {Q : Nat → Nat} {n i : Nat} (hi : i < n) (h : ∀ j, i < j → j < n → Q j ≤ 100) : mm law Q n i ≤ cu Q (i + 1) (n - 1 - i) 100 := by
  have h1 := cu_100 (Q := Q) (a := i + 1) (y := n - 1 - i) (fun j q1 q2 => h j (by omega) (by omega))
  have h2 := nd_le (law := law) (left := n - i) (by omega)
  unfold mm
  omega
theorem vsr_eq {p : Nat → Bool} {v : Nat} (hp : p v = true) : ∀ {f w : Nat}, w ≤ v → v ≤ w + f → (∀ u, w ≤ u → u < v → p u = false) → vsr p f w = v
  | 0, w, h1, h2, _ => by
    show w = v
    omega
  | f + 1, w, h1, h2, h3 => by
    unfold vsr
    by_cases e : w = v
    · subst e
      rw [if_pos hp]
    · rw [if_neg (by rw [h3 w (Nat.le_refl w) (by omega)]; exact Bool.false_ne_true)]
      exact vsr_eq hp (by omega) (by omega) (fun u q1 q2 => h3 u (by omega) q2)
theorem vv_eq {law : Int32} {Q : Nat → Nat} {c n i v : Nat} (h1 : stp Q (i + 1) (n - 1 - i) (mm law Q n i) c v = true) (h2 : ∀ u, u < v → stp Q (i + 1) (n - 1 - i) (mm law Q n i) c u = false) (h3 : v ≤ 100) : vv law Q c n i = v :=
  vsr_eq h1 (Nat.zero_le v) (by omega) (fun u _ q => h2 u q)
theorem gap {Q : Nat → Nat} {a y m v : Nat} : ∀ {d : Nat}, (∀ j, a ≤ j → j < a + y → v < Q j → v + d < Q j) → cu Q a y (v + d) = cu Q a y v ∧ co Q a y m (v + d) = co Q a y m v
  | 0, _ => ⟨rfl, rfl⟩
  | d + 1, h => by
    obtain ⟨h1, h2⟩ := gap (Q := Q) (a := a) (y := y) (m := m) (v := v) (d := d) (fun j q1 q2 q3 => by have := h j q1 q2 q3; omega)
    have h3 : cv Q a y (v + d + 1) = 0 := by
      rcases Nat.eq_zero_or_pos (cv Q a y (v + d + 1)) with q | q
      · exact q
      · obtain ⟨j, q1, q2, q3⟩ := cn_ex q
        have q4 : Q j = v + d + 1 := by simpa using q3
        have := h j q1 q2 (by omega)
        omega
    refine ⟨?_, ?_⟩
    · show cu Q a y (v + d) + cv Q a y (v + d + 1) = _
      rw [h1, h3]
      rfl
    · show co Q a y m (v + d) + (v + d + 1) * min (cv Q a y (v + d + 1)) _ = _
      rw [h2, h3]
      simp
theorem ask_le {tie : Int32} {s : Int} (h1 : s ≤ 99) : ask tie s ≤ 100 := by
  unfold ask
  split <;> omega
theorem stp_f {Q : Nat → Nat} {a y m c v : Nat} : stp Q a y m c v = false ↔ (cu Q a y v < m ∧ co Q a y m v ≤ c) := by
  unfold stp
  simp
theorem stp_t {Q : Nat → Nat} {a y m c v : Nat} : stp Q a y m c v = true ↔ (m ≤ cu Q a y v ∨ c < co Q a y m v) := by
  unfold stp
  simp
/-- one level more -/
theorem OF_step {Q : Nat → Nat} {a y m v w : Nat} (hvw : v < w) (hg : ∀ j, a ≤ j → j < a + y → v < Q j → w ≤ Q j) : ∀ j, OF Q a y m w j = if a ≤ j ∧ j < a + y ∧ Q j = w ∧ rk Q a j < m - cu Q a y v then w else OF Q a y m v j := by
  intro j
  have hc : cu Q a y (w - 1) = cu Q a y v := by
    have := (gap (Q := Q) (a := a) (y := y) (m := m) (v := v) (d := w - 1 - v) (fun j q1 q2 q3 => by have := hg j q1 q2 q3; omega)).1
    rw [show v + (w - 1 - v) = w - 1 by omega] at this
    exact this
  unfold OF
  by_cases h1 : a ≤ j ∧ j < a + y
  · by_cases h2 : Q j = w
    · by_cases h3 : rk Q a j < m - cu Q a y v
      · rw [if_pos ⟨h1.1, h1.2, by omega, by omega, by rw [h2, hc]; exact h3⟩, if_pos ⟨h1.1, h1.2, h2, h3⟩, h2]
      · rw [if_neg (fun q => h3 (by have := q.2.2.2.2; rw [h2, hc] at this; exact this)), if_neg (fun q => h3 q.2.2.2), if_neg (fun q => by have := q.2.2.2.1; omega)]
    · rw [if_neg (c := a ≤ j ∧ j < a + y ∧ Q j = w ∧ rk Q a j < m - cu Q a y v) (fun q => h2 q.2.2.1)]
      by_cases h3 : v < Q j
      · have := hg j h1.1 h1.2 h3
        rw [if_neg (fun q => by have := q.2.2.2.1; omega), if_neg (fun q => by have := q.2.2.2.1; omega)]
      · by_cases h4 : a ≤ j ∧ j < a + y ∧ 0 < Q j ∧ Q j ≤ v ∧ rk Q a j < m - cu Q a y (Q j - 1)
        · rw [if_pos h4, if_pos ⟨h4.1, h4.2.1, h4.2.2.1, by omega, h4.2.2.2.2⟩]
        · rw [if_neg h4, if_neg (fun q => h4 ⟨q.1, q.2.1, q.2.2.1, by omega, q.2.2.2.2⟩)]
  · rw [if_neg (fun q => h1 ⟨q.1, q.2.1⟩), if_neg (fun q => h1 ⟨q.1, q.2.1⟩), if_neg (fun q => h1 ⟨q.1, q.2.1⟩)]
/-- a level that is not the last is bought whole -/
theorem rk_all {Q : Nat → Nat} {a y m j : Nat} (h1 : a ≤ j) (h2 : j < a + y) (h0 : 0 < Q j) (h3 : cu Q a y (Q j) < m) : rk Q a j < m - cu Q a y (Q j - 1) := by
  have h4 : rk Q a j < cv Q a y (Q j) := cn_pos (p := fun k => decide (Q k = Q j)) h1 h2 (by simp)
  have h5 : cu Q a y (Q j) = cu Q a y (Q j - 1) + cv Q a y (Q j) := by
    obtain ⟨u, hu⟩ : ∃ u, Q j = u + 1 := ⟨Q j - 1, by omega⟩
    rw [hu]
    rfl
  omega
theorem cv_congr {Q R : Nat → Nat} {a y v : Nat} (h : ∀ j, a ≤ j → j < a + y → Q j = R j) : cv Q a y v = cv R a y v := cn_congr fun j h1 h2 => by rw [h j h1 h2]
theorem cu_congr {Q R : Nat → Nat} {a y : Nat} (h : ∀ j, a ≤ j → j < a + y → Q j = R j) : ∀ v, cu Q a y v = cu R a y v
  | 0 => rfl
  | v + 1 => by
    show cu Q a y v + cv Q a y (v + 1) = cu R a y v + cv R a y (v + 1)
    rw [cu_congr h v, cv_congr h]
theorem co_congr {Q R : Nat → Nat} {a y m : Nat} (h : ∀ j, a ≤ j → j < a + y → Q j = R j) : ∀ v, co Q a y m v = co R a y m v
  | 0 => rfl
  | v + 1 => by
    show co Q a y m v + (v + 1) * min (cv Q a y (v + 1)) (m - cu Q a y v) = co R a y m v + (v + 1) * min (cv R a y (v + 1)) (m - cu R a y v)
    rw [co_congr h v, cv_congr h, cu_congr h v]
theorem rk_congr {Q R : Nat → Nat} {a y j : Nat} (h : ∀ j, a ≤ j → j < a + y → Q j = R j) (h1 : a ≤ j) (h2 : j < a + y) : rk Q a j = rk R a j := cn_congr fun k q1 q2 => by rw [h k q1 (by omega), h j h1 h2]
theorem OF_congr {Q R : Nat → Nat} {a y m v : Nat} (h : ∀ j, a ≤ j → j < a + y → Q j = R j) (j : Nat) : OF Q a y m v j = OF R a y m v j := by
  unfold OF
  by_cases h1 : a ≤ j ∧ j < a + y
  · rw [h j h1.1 h1.2, rk_congr h h1.1 h1.2, cu_congr h]
  · rw [if_neg (fun q => h1 ⟨q.1, q.2.1⟩), if_neg (fun q => h1 ⟨q.1, q.2.1⟩)]
theorem mm_congr {law : Int32} {Q R : Nat → Nat} {n i : Nat} (h : ∀ j, i + 1 ≤ j → j < i + 1 + (n - 1 - i) → Q j = R j) : mm law Q n i = mm law R n i := by
  unfold mm
  rw [cv_congr h]
theorem vv_congr {law : Int32} {Q R : Nat → Nat} {c n i : Nat} (h : ∀ j, i + 1 ≤ j → j < i + 1 + (n - 1 - i) → Q j = R j) : vv law Q c n i = vv law R c n i := by
  unfold vv
  rw [mm_congr h]
  congr 1
  funext v
  unfold stp
  rw [cu_congr h, co_congr h]
theorem cc1_congr {law : Int32} {Q R : Nat → Nat} {c n i : Nat} (h : ∀ j, i + 1 ≤ j → j < i + 1 + (n - 1 - i) → Q j = R j) : cc1 law Q c n i = cc1 law R c n i := by
  unfold cc1
  rw [mm_congr h, vv_congr h, co_congr h]
theorem STG_congr {law tie : Int32} {c n i : Nat} {S S' : Nat → Int} (h : ∀ j, i < j → j < n → S j = S' j) : ∀ j, i ≤ j → j < n → STG law tie c n i S j = STG law tie c n i S' j := by
  intro j h1 h2
  have hq : ∀ j, i + 1 ≤ j → j < i + 1 + (n - 1 - i) → (fun j => ask tie (S j)) j = (fun j => ask tie (S' j)) j := fun j q1 q2 => by
    show ask tie (S j) = ask tie (S' j)
    rw [h j (by omega) (by omega)]
  unfold STG
  rw [cc1_congr hq, mm_congr hq, vv_congr hq, OF_congr hq]
  by_cases e : j = i
  · simp only [e, if_true]
  · simp only [if_neg e, h j (by omega) h2]
theorem co_mono {Q : Nat → Nat} {a y m v : Nat} : ∀ {d : Nat}, co Q a y m v ≤ co Q a y m (v + d)
  | 0 => Nat.le_refl _
  | d + 1 => by
    have := co_mono (Q := Q) (a := a) (y := y) (m := m) (v := v) (d := d)
    show _ ≤ co Q a y m (v + d) + _
    omega
theorem OF_co {Q : Nat → Nat} {a y m v j : Nat} : OF Q a y m v j ≤ co Q a y m v := by
  unfold OF
  split
  · rename_i h
    obtain ⟨h1, h2, h3, h4, h5⟩ := h
    obtain ⟨u, hu⟩ : ∃ u, Q j = u + 1 := ⟨Q j - 1, by omega⟩
    have h6 : 0 < cv Q a y (u + 1) := by
      have := cn_pos (p := fun k => decide (Q k = Q j)) h1 h2 (by simp)
      rw [hu] at this
      unfold cv
      omega
    rw [hu] at h5
    have h7 : 1 ≤ min (cv Q a y (u + 1)) (m - cu Q a y u) := by
      have : u + 1 - 1 = u := by omega
      rw [this] at h5
      omega
    have h8 : co Q a y m (u + 1) = co Q a y m u + (u + 1) * min (cv Q a y (u + 1)) (m - cu Q a y u) := rfl
    have h9 : (u + 1) * 1 ≤ (u + 1) * min (cv Q a y (u + 1)) (m - cu Q a y u) := Nat.mul_le_mul_left _ h7
    have h10 := co_mono (Q := Q) (a := a) (y := y) (m := m) (v := u + 1) (d := v - (u + 1))
    rw [show u + 1 + (v - (u + 1)) = v by omega] at h10
    omega
  · omega
theorem STG_rng {law tie : Int32} {c n i : Nat} {S : Nat → Int} (hc : c ≤ 99) (h : ∀ j, i < j → j < n → -1 ≤ S j ∧ S j ≤ 99) : ∀ j, i ≤ j → j < n → -1 ≤ STG law tie c n i S j ∧ STG law tie c n i S j ≤ 99 := by
  intro j h1 h2
  unfold STG
  by_cases e : j = i
  · subst e
    split
    · rw [if_pos rfl]
      omega
    · rw [if_pos rfl]
      omega
  · split
    · rename_i hcc
      have := OF_co (Q := fun j => ask tie (S j)) (a := i + 1) (y := n - 1 - i) (m := mm law (fun j => ask tie (S j)) n i) (v := vv law (fun j => ask tie (S j)) c n i) (j := j)
      unfold cc1 at hcc
      omega
    · exact h j (by omega) h2
theorem FS_rng {law tie : Int32} {c n : Nat} (hc : c ≤ 99) : ∀ k, k ≤ n → ∀ j, n - k ≤ j → j < n → -1 ≤ FS law tie c n k j ∧ FS law tie c n k j ≤ 99
  | 0, _, j, h1, h2 => by omega
  | k + 1, hk, j, h1, h2 => STG_rng hc (fun j q1 q2 => FS_rng hc k (by omega) j (by omega) q2) j h1 h2
theorem askP {z : Int} (hz : sm z) (h : ¬ iI z ≤ 0) : iI z = nI z.toNat := by
  rw [← iI_0, iI_le hz sm0] at h
  rw [nI_iI, Int.toNat_of_nonneg (by omega)]
theorem askN {z : Int} (hz : sm z) (h : iI z ≤ 0) : (0 : Int32) = nI z.toNat := by
  rw [← iI_0, iI_le hz sm0] at h
  rw [show z.toNat = 0 by omega]
  rfl
theorem nI_0' : nI 0 = 0 := rfl
theorem en_0 {a y : Nat} (ha : a ≤ 1000) (hy : y ≤ 1000) : (2 : Int32) * nI y < nI a ↔ ¬ (a + 1) / 2 ≤ y := by
  rw [show (2 : Int32) * nI y = nI (2 * y) from pk_mul 2 y, nI_ltI (by omega) (by omega)]
  omega
theorem en_1 {a y : Nat} (ha : a ≤ 1000) (hy : y ≤ 1000) : (2 : Int32) * nI y ≤ nI a ↔ ¬ a / 2 + 1 ≤ y := by
  rw [show (2 : Int32) * nI y = nI (2 * y) from pk_mul 2 y, nI_leI (by omega) (by omega)]
  omega
theorem en_2 {a y : Nat} (ha : a ≤ 1000) (hy : y ≤ 1000) : (3 : Int32) * nI y < 2 * nI a ↔ ¬ (2 * a + 2) / 3 ≤ y := by
  rw [show (3 : Int32) * nI y = nI (3 * y) from pk_mul 3 y, show (2 : Int32) * nI a = nI (2 * a) from pk_mul 2 a, nI_ltI (by omega) (by omega)]
  omega

end

section
/-! 30.pool -/
/-! rows of int[8][8] among the pooled cells -/
abbrev plE (aC : Nat → ClassId) (g : Nat → Nat → Int32) : Nat → va_E := fun a => .inl (aC 0, 8, .inl (g a))
theorem plE_up {aC : Nat → ClassId} {g : Nat → Nat → Int32} {a : Nat} {u : Nat → Int32} : va_up (plE aC g) a (.inl (aC 0, 8, .inl u)) = plE aC (va_up g a u) := by
  funext b
  unfold va_up plE
  dsimp only
  by_cases h : b = a
  · rw [if_pos h, if_pos h]
  · rw [if_neg h, if_neg h]
abbrev wp (X P : va_W) : va_W := X ++ P
/-- the rows of a plan: outer arrays and where their rows lie -/
def GRD (L : List Nat) (fo fp fs : Nat → Option Nat) (ro rp rs : Nat → Nat) : Prop := (∀ q, q < 8 → (fo q = some (ro q) ∧ ro q ∈ L) ∧ (fp q = some (rp q) ∧ rp q ∈ L) ∧ (fs q = some (rs q) ∧ rs q ∈ L)) ∧
  (∀ q r, q < 8 → r < 8 → (ro q = ro r → q = r) ∧ (rp q = rp r → q = r) ∧ (rs q = rs r → q = r) ∧ ro q ≠ rp r ∧ ro q ≠ rs r ∧ rp q ≠ rs r)
section PLR
variable {p : Program} {l : Launch} {e : Env} {R : Room} {s : State} {m : MethodId} {args : Array Value} {below : List Frame} {meth : Method} {c : Code} {H : Heap} {locs : List Loc} {cells slots : Nat} {Q : State → Prop}
variable {cc : ByteArray} {pc : Nat} {ls : Array Slot} {rest : List Value} {D : va_G} {cl : List vw_C} {A : Nat → Prop} {aC : Nat → ClassId} {X ws : va_W} {H0 : Heap} {L : List Nat} {g : Nat → Nat → Int32} {a : Nat}
theorem va_alda (hexec : p.tables.exec = Jvm.exec) (hb : c.code = cc) (hK : va_K D cl (TY aC) s) (hP : va_P D cl ws H) (q0 : Nat) {n r : Nat} {f : Nat → Option Nat} (ha : ws[q0]? = some (a, .inl (aC 4, n, .inr (.inr (.inr (.inr f)))))) {i : Int32} (hin : vp_in i n) (hr : f i.toNatClampNeg = some r) (hdg : decode cc pc = .ok (.aaload, 1))
    (kk : W p l e R s m args below meth c H locs cells slots Q (F0 m (pc + 1) ls (.ref r :: rest))) : W p l e R s m args below meth c H locs cells slots Q (F0 m pc ls (.int i :: .ref a :: rest)) := by
  have hlt : i.toNatClampNeg < n := Nat.not_le.mp fun q => hin (Or.inr q)
  have e9 : va_rf (f i.toNatClampNeg) = .ref r := by rw [hr]; rfl
  rw [← e9] at kk
  exact W.aald (v := va_rf (f i.toNatClampNeg)) (ty := .array .int) hexec hb (hP q0 _ ha) ((hK.2 4 _ rfl).1 n (fun j => va_rf (f j))) rfl (fun q => by cases q) (by show ¬ (i < 0 ∨ (arrV _ _ _).slots.size ≤ _); rw [arrV_size]; exact hin) (by show (arrV _ _ _).slots[_]? = _; rw [arrV_read _ _ hlt]) rfl rfl hdg kk
/-- a reference out of the kinds' array -/
theorem va_aldk (hexec : p.tables.exec = Jvm.exec) (hb : c.code = cc) (hK : va_K D cl (TY aC) s) (hP : va_P D cl ws H) (q0 : Nat) {n r : Nat} {f : Nat → Option Nat} (ha : ws[q0]? = some (a, .inl (aC 3, n, .inr (.inr (.inr (.inr f)))))) {i : Int32} (hin : vp_in i n) (hr : f i.toNatClampNeg = some r) (hdg : decode cc pc = .ok (.aaload, 1))
    (kk : W p l e R s m args below meth c H locs cells slots Q (F0 m (pc + 1) ls (.ref r :: rest))) : W p l e R s m args below meth c H locs cells slots Q (F0 m pc ls (.int i :: .ref a :: rest)) := by
  have e9 : va_rf (f i.toNatClampNeg) = .ref r := by rw [hr]; rfl
  rw [← e9] at kk
  exact va_aldq hexec hb hK hP q0 3 ha rfl hin hdg kk
theorem pl_iald (hexec : p.tables.exec = Jvm.exec) (hb : c.code = cc) (hK : va_K D cl (TY aC) s) (hP : va_P D cl (X ++ va_pl L (plE aC g)) H) (ha : a ∈ L) {i : Int32} (hin : vp_in i 8) (hdg : decode cc pc = .ok (.iaload, 1))
    (kk : W p l e R s m args below meth c H locs cells slots Q (F0 m (pc + 1) ls (.int (g a i.toNatClampNeg) :: rest))) : W p l e R s m args below meth c H locs cells slots Q (F0 m pc ls (.int i :: .ref a :: rest)) := by
  obtain ⟨k, hk⟩ := va_pl_get (X := X) (f := plE aC g) ha
  exact va_iald hexec hb hK hP k 0 hk rfl hin hdg kk
theorem pl_alen (hexec : p.tables.exec = Jvm.exec) (hb : c.code = cc) (hK : va_K D cl (TY aC) s) (hP : va_P D cl (X ++ va_pl L (plE aC g)) H) (ha : a ∈ L) (hdg : decode cc pc = .ok (.arraylength, 1))
    (kk : W p l e R s m args below meth c H locs cells slots Q (F0 m (pc + 1) ls (.int 8 :: rest))) : W p l e R s m args below meth c H locs cells slots Q (F0 m pc ls (.ref a :: rest)) := by
  obtain ⟨k, hk⟩ := va_pl_get (X := X) (f := plE aC g) ha
  exact va_alen hexec hb hK hP k 0 hk rfl rfl hdg kk
theorem pl_iast (hexec : p.tables.exec = Jvm.exec) (hb : c.code = cc) (hK : va_K D cl (TY aC) s) (hP : va_P D cl (X ++ va_pl L (plE aC g)) H) (hD : va_D A (X ++ va_pl L (plE aC g))) (hS : va_S A H0 H locs) (ha : a ∈ L) {i x : Int32} (hin : vp_in i 8) (hdg : decode cc pc = .ok (.iastore, 1))
    (kk : ∀ (H1 : Heap) (locs1 : List Loc), va_P D cl (X ++ va_pl L (plE aC (va_up g a (upd (g a) i.toNatClampNeg x)))) H1 → va_D A (X ++ va_pl L (plE aC (va_up g a (upd (g a) i.toNatClampNeg x)))) → va_S A H0 H1 locs1 → W p l e R s m args below meth c H1 locs1 cells slots Q (F0 m (pc + 1) ls rest)) : W p l e R s m args below meth c H locs cells slots Q (F0 m pc ls (.int x :: .int i :: .ref a :: rest)) := by
  obtain ⟨k, hk⟩ := va_pl_get (X := X) (f := plE aC g) ha
  refine va_iast hexec hb hK hP hD hS k 0 hk rfl hin hdg (fun H1 locs1 h1 h2 h3 => ?_)
  rw [va_pl_set hD ha hk, plE_up] at h1 h2
  exact kk H1 locs1 h1 h2 h3
theorem pl_copyi (hexec : p.tables.exec = Jvm.exec) (hb : c.code = cc) (hml : c.maxLocals = ls.size) {own : String} {index : Nat} (hown : s.vm.findClass own = some m.cls) (hlink : (Cond.methodLink own index arraycopyName).before args s = true) (hnat : (Cond.native arraycopyName).before args s = true) (hstat : (Cond.static arraycopyName).before args s = true) (hini : (Cond.initialized "java/lang/System").before args s = true)
    (hK : va_K D cl (TY aC) s) (hP : va_P D cl (X ++ va_pl L (plE aC g)) H) (hD : va_D A (X ++ va_pl L (plE aC g))) (hS : va_S A H0 H locs) {a0 : Nat} (ha0 : a0 ∈ L) (ha : a ∈ L)
    (hframes : 1 ≤ R.frames) (hlocals : (rest.map fun v => v.category).sum + (nativeFrameWords "java/lang/System" "arraycopy" 5 + 11) ≤ R.locals) (hdg : decode cc pc = .ok (.invokestatic index, 3))
    (kk : ∀ (H1 : Heap) (locs1 : List Loc), va_P D cl (X ++ va_pl L (plE aC (va_up g a (va_cpy (g a0) (g a) 0 0 8)))) H1 → va_D A (X ++ va_pl L (plE aC (va_up g a (va_cpy (g a0) (g a) 0 0 8)))) → va_S A H0 H1 locs1 → W p l e R s m args below meth c H1 locs1 cells slots Q (F0 m (pc + 3) ls rest)) : W p l e R s m args below meth c H locs cells slots Q (F0 m pc ls (.int 8 :: .int 0 :: .ref a :: .int 0 :: .ref a0 :: rest)) := by
  obtain ⟨k0, hk0⟩ := va_pl_get (X := X) (f := plE aC g) ha0
  obtain ⟨k1, hk1⟩ := va_pl_get (X := X) (f := plE aC g) ha
  refine va_copyi (ty := .int) hexec hb hml hown hlink hnat hstat hini hK hP hD hS k0 k1 0 0 hk0 hk1 rfl rfl rfl (by decide) (by decide) (by decide) (by decide) (by decide) (fun _ _ => rfl) hframes hlocals hdg (fun H1 locs1 h1 h2 h3 => ?_)
  have e : ∀ w, (X ++ va_pl L (plE aC g)).set k1 (a, .inl (aC 0, 8, .inl w)) = X ++ va_pl L (plE aC (va_up g a w)) := fun w => by rw [va_pl_set hD ha hk1, plE_up]
  rw [e] at h1 h2
  exact kk H1 locs1 h1 h2 h3
end PLR
/-- a part of the cells, and the pool -/
theorem plP {D : va_G} {cl : List vw_C} {X cx pl : va_W} {H : Heap} (hP : va_P D cl (X ++ pl) H) (is : List Nat) (hs : is.map (fun i => X[i]?) = cx.map some) : va_P D cl (cx ++ pl) H := hP.by _ (va_part is hs)
theorem plF {A0 : Nat → Prop} {X cx pl : va_W} {H0 H : Heap} {locs : List Loc} (hD : va_D A0 (X ++ pl)) (hS : va_S A0 H0 H locs) (hA : ∀ q, H0.size ≤ q → A0 q) (is : List Nat) (hs : is.map (fun i => X[i]?) = cx.map some) : ∀ q, va_A (cx ++ pl) H.size q → A0 q := by
  intro q h
  rcases h with ⟨k, e, hk⟩ | h
  · exact hD.2 _ _ (va_part is hs k _ hk)
  · exact hA q (Nat.le_trans hS.1 h)
theorem nd_inj : ∀ {l : List Nat}, va_nd l = true → ∀ {i j : Nat}, i < l.length → j < l.length → l[i]? = l[j]? → i = j := by
  intro l h i j hi hj he
  have := va_D.sub (A := fun _ => True) (ws := (List.range (l.foldl max 0 + 1)).map (fun a => (a, (.inr (0, []) : va_E)))) (ws' := l.map (fun a => (a, (.inr (0, []) : va_E)))) ⟨fun i j p q h1 h2 h3 => by
    simp only [List.getElem?_map, Option.map_eq_some_iff] at h1 h2
    obtain ⟨a, ha, rfl⟩ := h1
    obtain ⟨b, hb, rfl⟩ := h2
    have e1 : a = i := by
      obtain ⟨q1, q2⟩ := List.getElem?_eq_some_iff.mp ha
      simpa using q2.symm
    have e2 : b = j := by
      obtain ⟨q1, q2⟩ := List.getElem?_eq_some_iff.mp hb
      simpa using q2.symm
    have h3 : a = b := h3
    omega, fun _ _ _ => trivial⟩ l h (by
    rw [List.map_map]
    apply List.map_congr_left
    intro a ha
    have hle : ∀ (l : List Nat) (x b : Nat), b ∈ l → b ≤ l.foldl max x := by
      intro l
      induction l with
      | nil => intro x b h; simp at h
      | cons c l ih =>
        intro x b h
        have hx : ∀ (l : List Nat) (x : Nat), x ≤ l.foldl max x := by
          intro l
          induction l with
          | nil => intro x; exact Nat.le_refl x
          | cons c l ih => intro x; exact Nat.le_trans (Nat.le_max_left x c) (ih _)
        rcases List.mem_cons.mp h with rfl | h
        · exact Nat.le_trans (Nat.le_max_right x b) (hx l _)
        · exact ih _ _ h
    have := hle l 0 a ha
    simp only [List.getElem?_map, Function.comp]
    rw [List.getElem?_range (by omega)]
    rfl)
  refine this.1 i j (l[i], .inr (0, [])) (l[j], .inr (0, [])) ?_ ?_ ?_
  · simp [hi]
  · simp [hj]
  · rw [List.getElem?_eq_getElem hi, List.getElem?_eq_getElem hj] at he
    exact Option.some.inj he
theorem plD {A0 : Nat → Prop} {X cx pl : va_W} (hD : va_D A0 (X ++ pl)) (is : List Nat) (hn : va_nd is = true) (hs : is.map (fun i => X[i]?) = cx.map some) : va_D A0 (cx ++ pl) := by
  have hlen : is.length = cx.length := by have := congrArg List.length hs; simpa using this
  have hlt : ∀ i, i < cx.length → (is[i]?).getD 0 < X.length := fun i hi => by
    have h1 : (is.map (fun i => X[i]?))[i]? = (cx.map some)[i]? := by rw [hs]
    rw [List.getElem?_map, List.getElem?_map, List.getElem?_eq_getElem (by omega : i < is.length), List.getElem?_eq_getElem hi] at h1
    simp only [Option.map_some] at h1
    rw [List.getElem?_eq_getElem (by omega : i < is.length)]
    exact (List.getElem?_eq_some_iff.mp (Option.some.inj h1)).1
  refine ⟨fun i j p q hi hj e => ?_, fun k q hk => hD.2 _ _ (va_part is hs k _ hk)⟩
  have h := hD.1 _ _ p q (va_part is hs i _ hi) (va_part is hs j _ hj) e
  by_cases h1 : i < cx.length
  · by_cases h2 : j < cx.length
    · rw [if_pos h1, if_pos h2] at h
      refine nd_inj hn (by omega) (by omega) ?_
      rw [List.getElem?_eq_getElem (by omega : i < is.length), List.getElem?_eq_getElem (by omega : j < is.length)] at h ⊢
      exact congrArg some h
    · rw [if_pos h1, if_neg h2] at h
      have := hlt i h1
      omega
  · by_cases h2 : j < cx.length
    · rw [if_neg h1, if_pos h2] at h
      have := hlt j h2
      omega
    · rw [if_neg h1, if_neg h2] at h
      omega
theorem pdf_P {D : va_G} {cl : List vw_C} {A0 : Nat → Prop} {X cx pl : va_W} {H0 H : Heap} {locs : List Loc} (hP : va_P D cl (X ++ pl) H) (hD : va_D A0 (X ++ pl)) (hS : va_S A0 H0 H locs) (hA : ∀ q, H0.size ≤ q → A0 q) (is : List Nat) (hn : va_nd is = true) (hs : is.map (fun i => X[i]?) = cx.map some) : va_P D cl (cx ++ pl) H ∧ va_D A0 (cx ++ pl) ∧ ∀ q, va_A (cx ++ pl) H.size q → A0 q :=
  ⟨plP hP is hs, plD hD is hn hs, plF hD hS hA is hs⟩
theorem pd_P {D : va_G} {cl : List vw_C} {A0 : Nat → Prop} {X cx pl : va_W} {H : Heap} (hP : va_P D cl (X ++ pl) H) (hD : va_D A0 (X ++ pl)) (is : List Nat) (hn : va_nd is = true) (hs : is.map (fun i => X[i]?) = cx.map some) : va_P D cl (cx ++ pl) H ∧ va_D A0 (cx ++ pl) :=
  ⟨plP hP is hs, plD hD is hn hs⟩
theorem jn_P {A0 : Nat → Prop} {D : va_G} {cl : List vw_C} {X cx wr rx pl pl1 : va_W} {H H1 : Heap} (hF : ∀ q, va_A (cx ++ pl) H.size q → A0 q) (hk : ∀ q : Nat, q < H.size → ¬ va_A (cx ++ pl) H.size q → H1[q]? = H[q]?) (hP1 : va_P D cl (rx ++ pl1) H1) (hD1 : va_D (va_A (cx ++ pl) H.size) (rx ++ pl1)) (hP : va_P D cl (X ++ pl) H) (hD : va_D A0 (X ++ pl)) (isC isR : List Nat) (hC : isC.map (fun i => X[i]?) = cx.map some) (hR : isR.map (fun i => X[i]?) = wr.map some) (hn : va_nd isR = true) (hdis : ∀ i ∈ isR, i ∉ isC) : va_P D cl ((wr ++ rx) ++ pl1) H1 ∧ va_D A0 ((wr ++ rx) ++ pl1) :=
  va_joinP hP hD isC isR hC hR hn hdis hk hF hP1 hD1
theorem jn_Q {A0 : Nat → Prop} {D : va_G} {cl : List vw_C} {X cx wr w1 pl : va_W} {H H1 : Heap} (hF : ∀ q, va_A cx H.size q → A0 q) (hk : ∀ q : Nat, q < H.size → ¬ va_A cx H.size q → H1[q]? = H[q]?) (hP1 : va_P D cl w1 H1) (hD1 : va_D (va_A cx H.size) w1) (hP : va_P D cl (X ++ pl) H) (hD : va_D A0 (X ++ pl)) (isC isR : List Nat) (hC : isC.map (fun i => X[i]?) = cx.map some) (hR : isR.map (fun i => X[i]?) = wr.map some) (hn : va_nd isR = true) (hdis : ∀ i ∈ isR, i ∉ isC) : va_P D cl ((wr ++ w1) ++ pl) H1 ∧ va_D A0 ((wr ++ w1) ++ pl) :=
  va_joinQ hP hD isC isR hC hR hn hdis hk hF hP1 hD1

end

section
/-! 31.asks -/
theorem gcons {w : Cond} {ws : List Cond} (h : w ∈ lw_G) (hG : GoodIn lw_G ws) : GoodIn lw_G (w :: ws) := by
  intro v hv
  rcases List.mem_cons.mp hv with rfl | hv
  · exact ⟨h, good_of_word (List.mem_filter.mp h).2⟩
  · exact hG v hv
/-! what each kind asks for -/
def env (tie : Int32) (s : Int) : Nat := if 0 ≤ s then ask tie s + 1 else ask tie s
def pr (k f : Nat) (tie : Int32) (s : Int) : Nat := if k = 0 then ask tie s else if k = 1 then s.toNat else if k = 2 then env tie s else if k = 3 then s.toNat else if k = 4 then f else if k = 5 then env tie s + f else f / 2
theorem pr_le {k f : Nat} {tie : Int32} {s : Int} (hf : f ≤ 9) (hs : s ≤ 99) : pr k f tie s ≤ 110 := by
  have h1 := ask_le (tie := tie) hs
  have h2 : env tie s ≤ 101 := by unfold env; split <;> omega
  unfold pr
  repeat' split
  all_goals omega
/-- what is known of an evening's men and settings -/
def EVH (n : Nat) (K F W : Nat → Nat) (cq : Nat) (kf ff wf stf : Nat → Int32) : Prop := n ≤ 8 ∧ cq ≤ 99 ∧ stf 0 = nI cq ∧ ∀ j, j < n → (kf j = nI (K j) ∧ K j ≤ 6) ∧ (ff j = nI (F j) ∧ F j ≤ 9) ∧ (wf j = nI (W j) ∧ 1 ≤ W j ∧ W j ≤ 9)
/-- the kinds' array -/
def KDS (fk : Nat → Option Nat) (k0 k1 k2 k3 k4 k5 k6 : Nat) : Prop := fk 0 = some k0 ∧ fk 1 = some k1 ∧ fk 2 = some k2 ∧ fk 3 = some k3 ∧ fk 4 = some k4 ∧ fk 5 = some k5 ∧ fk 6 = some k6
theorem le6 {k : Nat} (h : k ≤ 6) : k = 0 ∨ k = 1 ∨ k = 2 ∨ k = 3 ∨ k = 4 ∨ k = 5 ∨ k = 6 := by omega
theorem max0_z {s : Int} (hs : sm s) : (if (0 : Int32) < iI s then iI s else 0) = nI s.toNat := by
  by_cases h : 0 < s
  · rw [if_pos (by rw [← iI_0, iI_lt sm0 hs]; exact h), nI_iI, Int.toNat_of_nonneg (by omega)]
  · rw [if_neg (by rw [← iI_0, iI_lt sm0 hs]; exact h), show s.toNat = 0 by omega]
    rfl
theorem ms_lt {n j fu : Nat} (h : j < n) (hf : n - j < fu + 1) : n - (j + 1) < fu := by omega

set_option maxHeartbeats 1000000 in
set_option maxRecDepth 100000 in
/-- X0_ask -/
theorem c_X0_ask (l : Launch) (dC : Nat → ClassId) (dI : Nat → Nat → Nat) (aC : Nat → ClassId) (sz : Nat) (h1 : Nat) (s0 : Int) (fg : Nat) (tie : Int32) (hs : -1 ≤ s0 ∧ s0 ≤ 99) (hfg : fg ≤ 9) : Met l yX0_ask (wW yX0_ask cX0_ask 5 (some .int)) ({ frames := 0, cells := 0, slots := 0, locals := 0 } : Room) (va_Pc [Value.ref h1, Value.int (iI s0), Value.int (nI fg), Value.int tie] (fun U => U.heap.size = sz ∧ va_P (dC, dI) classes [] U.heap ∧ va_K (dC, dI) classes (TY aC) U ∧ va_D (fun _ => True) [] ∧ NX U)) (va_Qi (fun (r : Int32) (_ : Unit) => r = nI (ask tie s0)) (fun (_ : Unit) (t : State) => va_P (dC, dI) classes [] t.heap ∧ va_K (dC, dI) classes (TY aC) t ∧ va_D (va_A [] sz) []) (va_A [] sz)) 0 0 (va_A [] sz) := by
  refine Met.ofW (cc := cX0_ask) (maxL := 5) (ret := (some .int)) (by decide) rfl ?_
  intro p e s m args below meth c s₁ B hml hv
  obtain ⟨rfl, hsz, hP, hK, hD0, hN⟩ := hv
  have hx := B.exec
  have hb := B.bytes
  have hr := B.returns
  have hts0 := atoms_spec (ws := (wW yX0_ask cX0_ask 5 (some .int))) B.pre
  have hts : ∀ w9 ∈ lw_G, w9.before ([Value.ref h1, Value.int (iI s0), Value.int (nI fg), Value.int tie] : List Value).toArray s = true := fun w9 h9 => hts0 w9 (List.mem_cons_of_mem _ h9)
  have hown : s.vm.findClass RX0 = some m.cls := findClass_of_methodNamed (x := yX0_ask) B.named
  have hlocks := B.notSynchronized
  subst hsz
  have hD := hD0.self (sz := s.heap.size)
  generalize hAe : va_A [] s.heap.size = A at hD ⊢
  have hA : ∀ q : Nat, s.heap.size ≤ q → A q := fun q h => by rw [← hAe]; exact Or.inr h
  obtain ⟨H, hHe⟩ : ∃ H : Heap, H = s.heap := ⟨_, rfl⟩
  have hS : va_S A s.heap H [] := by rw [hHe]; exact va_S.rf
  have hP : va_P (dC, dI) classes [] H := by rw [hHe]; exact hP
  have hl := lv_entry ([Value.ref h1, Value.int (iI s0), Value.int (nI fg), Value.int tie]) (n := 5) (Nat.le_of_ble_eq_true rfl)
  rw [lg_entry_eq]
  generalize (lg_sl ([Value.ref h1, Value.int (iI s0), Value.int (nI fg), Value.int tie]) ++ List.replicate (5 - (lg_sl ([Value.ref h1, Value.int (iI s0), Value.int (nI fg), Value.int tie])).length) Slot.unset).toArray = ls at hl ⊢
  have hl : lv_has ls 5 [(0, Value.ref h1), (1, Value.int (iI s0)), (2, Value.int (nI fg)), (3, Value.int tie)] := hl
  rw [← hHe]
  refine lv_iload_n hx hb dX0_ask_0 rfl (lv_at hl 3 rfl) ?_
  refine lv_iconst (v := 1) hx hb dX0_ask_1 (by decide) ?_
  refine lv_icmp_ne (tgt := 9) hx hb dX0_ask_2 (by decide) (fun c_1 => ?_) (fun c_1 => ?_)
  · refine lv_iload_n hx hb dX0_ask_9 rfl (lv_at hl 1 rfl) ?_
    refine lv_iconst (v := 1) hx hb dX0_ask_10 (by decide) ?_
    refine lv_iadd hx hb dX0_ask_11 ?_
    refine lv_topi (fun x_2 e_2 => ?_)
    refine lv_istore (lv' := [(4, Value.int x_2), (0, Value.ref h1), (1, Value.int (iI s0)), (2, Value.int (nI fg)), (3, Value.int tie)]) hx hb dX0_ask_12 hl (by decide) rfl (fun ls hl => ?_)
    refine lv_iload hx hb dX0_ask_14 (lv_at hl 0 rfl) ?_
    refine lv_if_le (tgt := 24) hx hb dX0_ask_16 (by decide) (fun c_3 => ?_) (fun c_3 => ?_)
    · refine lv_iconst (v := 0) hx hb dX0_ask_24 (by decide) ?_
      have hpd9 := pd_N (cx := []) hP hD [] (by decide) rfl
      have hP9 := hpd9.1
      have hD9 := hpd9.2
      refine W.widen (k := 0) (n := 0) (by omega) (by omega) ?_
      exact W.iret (v := 0) hx hb hr (fun t ht hW => ⟨⟨0, (), rfl, by unfold ask; rw [if_neg c_1]; have h8 : x_2 = iI (s0 + 1) := (by rw [e_2, ← iI_1, iI_add]); exact askN (by unfold sm; omega) (h8 ▸ c_3), by rw [ht]; exact hP9, va_K.moved hW.alike hK, hD9⟩, hS.F ht⟩) hS.2.2 dX0_ask_25
    · refine lv_iload hx hb dX0_ask_19 (lv_at hl 0 rfl) ?_
      refine lv_goto (tgt := 25) hx hb dX0_ask_21 (by decide) ?_
      have hpd9 := pd_N (cx := []) hP hD [] (by decide) rfl
      have hP9 := hpd9.1
      have hD9 := hpd9.2
      refine W.widen (k := 0) (n := 0) (by omega) (by omega) ?_
      exact W.iret (v := x_2) hx hb hr (fun t ht hW => ⟨⟨x_2, (), rfl, by unfold ask; rw [if_neg c_1]; have h8 : x_2 = iI (s0 + 1) := (by rw [e_2, ← iI_1, iI_add]); exact h8.trans (askP (by unfold sm; omega) (h8 ▸ c_3)), by rw [ht]; exact hP9, va_K.moved hW.alike hK, hD9⟩, hS.F ht⟩) hS.2.2 dX0_ask_25
  · refine lv_iload_n hx hb dX0_ask_5 rfl (lv_at hl 1 rfl) ?_
    refine lv_goto (tgt := 12) hx hb dX0_ask_6 (by decide) ?_
    refine lv_istore (lv' := [(4, Value.int (iI s0)), (0, Value.ref h1), (1, Value.int (iI s0)), (2, Value.int (nI fg)), (3, Value.int tie)]) hx hb dX0_ask_12 hl (by decide) rfl (fun ls hl => ?_)
    refine lv_iload hx hb dX0_ask_14 (lv_at hl 0 rfl) ?_
    refine lv_if_le (tgt := 24) hx hb dX0_ask_16 (by decide) (fun c_4 => ?_) (fun c_4 => ?_)
    · refine lv_iconst (v := 0) hx hb dX0_ask_24 (by decide) ?_
      have hpd9 := pd_N (cx := []) hP hD [] (by decide) rfl
      have hP9 := hpd9.1
      have hD9 := hpd9.2
      refine W.widen (k := 0) (n := 0) (by omega) (by omega) ?_
      exact W.iret (v := 0) hx hb hr (fun t ht hW => ⟨⟨0, (), rfl, by unfold ask; rw [if_pos c_1]; exact askN (by unfold sm; omega) c_4, by rw [ht]; exact hP9, va_K.moved hW.alike hK, hD9⟩, hS.F ht⟩) hS.2.2 dX0_ask_25
    · refine lv_iload hx hb dX0_ask_19 (lv_at hl 0 rfl) ?_
      refine lv_goto (tgt := 25) hx hb dX0_ask_21 (by decide) ?_
      have hpd9 := pd_N (cx := []) hP hD [] (by decide) rfl
      have hP9 := hpd9.1
      have hD9 := hpd9.2
      refine W.widen (k := 0) (n := 0) (by omega) (by omega) ?_
      exact W.iret (v := iI s0) hx hb hr (fun t ht hW => ⟨⟨(iI s0), (), rfl, by unfold ask; rw [if_pos c_1]; exact askP (by unfold sm; omega) c_4, by rw [ht]; exact hP9, va_K.moved hW.alike hK, hD9⟩, hS.F ht⟩) hS.2.2 dX0_ask_25

set_option maxHeartbeats 1000000 in
set_option maxRecDepth 100000 in
/-- X1_ask -/
theorem c_X1_ask (l : Launch) (dC : Nat → ClassId) (dI : Nat → Nat → Nat) (aC : Nat → ClassId) (sz : Nat) (h1 : Nat) (s0 : Int) (fg : Nat) (tie : Int32) (hs : -1 ≤ s0 ∧ s0 ≤ 99) (hfg : fg ≤ 9) : Met l yX1_ask (wW yX1_ask cX1_ask 4 (some .int)) ({ frames := 1, cells := 0, slots := 0, locals := 13 } : Room) (va_Pc [Value.ref h1, Value.int (iI s0), Value.int (nI fg), Value.int tie] (fun U => U.heap.size = sz ∧ va_P (dC, dI) classes [] U.heap ∧ va_K (dC, dI) classes (TY aC) U ∧ va_D (fun _ => True) [] ∧ NX U)) (va_Qi (fun (r : Int32) (_ : Unit) => r = nI s0.toNat) (fun (_ : Unit) (t : State) => va_P (dC, dI) classes [] t.heap ∧ va_K (dC, dI) classes (TY aC) t ∧ va_D (va_A [] sz) []) (va_A [] sz)) 0 0 (va_A [] sz) := by
  refine Met.ofW (cc := cX1_ask) (maxL := 4) (ret := (some .int)) (by decide) rfl ?_
  intro p e s m args below meth c s₁ B hml hv
  obtain ⟨rfl, hsz, hP, hK, hD0, hN⟩ := hv
  have hx := B.exec
  have hb := B.bytes
  have hr := B.returns
  have hts0 := atoms_spec (ws := (wW yX1_ask cX1_ask 4 (some .int))) B.pre
  have hts : ∀ w9 ∈ lw_G, w9.before ([Value.ref h1, Value.int (iI s0), Value.int (nI fg), Value.int tie] : List Value).toArray s = true := fun w9 h9 => hts0 w9 (List.mem_cons_of_mem _ h9)
  have hown : s.vm.findClass RX1 = some m.cls := findClass_of_methodNamed (x := yX1_ask) B.named
  have hlocks := B.notSynchronized
  subst hsz
  have hD := hD0.self (sz := s.heap.size)
  generalize hAe : va_A [] s.heap.size = A at hD ⊢
  have hA : ∀ q : Nat, s.heap.size ≤ q → A q := fun q h => by rw [← hAe]; exact Or.inr h
  obtain ⟨H, hHe⟩ : ∃ H : Heap, H = s.heap := ⟨_, rfl⟩
  have hS : va_S A s.heap H [] := by rw [hHe]; exact va_S.rf
  have hP : va_P (dC, dI) classes [] H := by rw [hHe]; exact hP
  have hl := lv_entry ([Value.ref h1, Value.int (iI s0), Value.int (nI fg), Value.int tie]) (n := 4) (Nat.le_of_ble_eq_true rfl)
  rw [lg_entry_eq]
  generalize (lg_sl ([Value.ref h1, Value.int (iI s0), Value.int (nI fg), Value.int tie]) ++ List.replicate (4 - (lg_sl ([Value.ref h1, Value.int (iI s0), Value.int (nI fg), Value.int tie])).length) Slot.unset).toArray = ls at hl ⊢
  have hl : lv_has ls 4 [(0, Value.ref h1), (1, Value.int (iI s0)), (2, Value.int (nI fg)), (3, Value.int tie)] := hl
  rw [← hHe]
  refine lv_iconst (v := 0) hx hb dX1_ask_0 (by decide) ?_
  refine lv_iload_n hx hb dX1_ask_1 rfl (lv_at hl 1 rfl) ?_
  refine va_mmax hx hb (by rw [hml]; exact hl.1.symm) hown (hts _ (gw kw_373 rfl)) (hts _ (gw kw_374 rfl)) (hts _ (gw kw_14 rfl)) (hts _ (gw kw_375 rfl)) (Nat.le_of_ble_eq_true rfl) (Nat.le_of_ble_eq_true rfl) (Nat.zero_le _) (Nat.zero_le _) dX1_ask_2 ?_
  refine lv_topi (fun x_1 e_1 => ?_)
  have hpd9 := pd_N (cx := []) hP hD [] (by decide) rfl
  have hP9 := hpd9.1
  have hD9 := hpd9.2
  refine W.widen (k := 0) (n := 0) (by omega) (by omega) ?_
  exact W.iret (v := x_1) hx hb hr (fun t ht hW => ⟨⟨x_1, (), rfl, by rw [e_1]; exact max0_z (by unfold sm; omega), by rw [ht]; exact hP9, va_K.moved hW.alike hK, hD9⟩, hS.F ht⟩) hS.2.2 dX1_ask_5

set_option maxHeartbeats 1000000 in
set_option maxRecDepth 100000 in
/-- X3_ask -/
theorem c_X3_ask (l : Launch) (dC : Nat → ClassId) (dI : Nat → Nat → Nat) (aC : Nat → ClassId) (sz : Nat) (h1 : Nat) (s0 : Int) (fg : Nat) (tie : Int32) (hs : -1 ≤ s0 ∧ s0 ≤ 99) (hfg : fg ≤ 9) : Met l yX3_ask (wW yX3_ask cX3_ask 5 (some .int)) ({ frames := 1, cells := 0, slots := 0, locals := 24 } : Room) (va_Pc [Value.ref h1, Value.int (iI s0), Value.int (nI fg), Value.int tie] (fun U => U.heap.size = sz ∧ va_P (dC, dI) classes [cO h1 3 []] U.heap ∧ va_K (dC, dI) classes (TY aC) U ∧ va_D (fun _ => True) [cO h1 3 []] ∧ NX U)) (va_Qi (fun (r : Int32) (_ : Unit) => r = nI (env tie s0)) (fun (_ : Unit) (t : State) => va_P (dC, dI) classes [cO h1 3 []] t.heap ∧ va_K (dC, dI) classes (TY aC) t ∧ va_D (va_A [cO h1 3 []] sz) [cO h1 3 []]) (va_A [cO h1 3 []] sz)) 0 0 (va_A [cO h1 3 []] sz) := by
  refine Met.ofW (cc := cX3_ask) (maxL := 5) (ret := (some .int)) (by decide) rfl ?_
  intro p e s m args below meth c s₁ B hml hv
  obtain ⟨rfl, hsz, hP, hK, hD0, hN⟩ := hv
  have hx := B.exec
  have hb := B.bytes
  have hr := B.returns
  have hts0 := atoms_spec (ws := (wW yX3_ask cX3_ask 5 (some .int))) B.pre
  have hts : ∀ w9 ∈ lw_G, w9.before ([Value.ref h1, Value.int (iI s0), Value.int (nI fg), Value.int tie] : List Value).toArray s = true := fun w9 h9 => hts0 w9 (List.mem_cons_of_mem _ h9)
  have hown : s.vm.findClass RX3 = some m.cls := findClass_of_methodNamed (x := yX3_ask) B.named
  have hlocks := B.notSynchronized
  subst hsz
  have hD := hD0.self (sz := s.heap.size)
  generalize hAe : va_A [cO h1 3 []] s.heap.size = A at hD ⊢
  have hA : ∀ q : Nat, s.heap.size ≤ q → A q := fun q h => by rw [← hAe]; exact Or.inr h
  obtain ⟨H, hHe⟩ : ∃ H : Heap, H = s.heap := ⟨_, rfl⟩
  have hS : va_S A s.heap H [] := by rw [hHe]; exact va_S.rf
  have hP : va_P (dC, dI) classes [cO h1 3 []] H := by rw [hHe]; exact hP
  have hl := lv_entry ([Value.ref h1, Value.int (iI s0), Value.int (nI fg), Value.int tie]) (n := 5) (Nat.le_of_ble_eq_true rfl)
  rw [lg_entry_eq]
  generalize (lg_sl ([Value.ref h1, Value.int (iI s0), Value.int (nI fg), Value.int tie]) ++ List.replicate (5 - (lg_sl ([Value.ref h1, Value.int (iI s0), Value.int (nI fg), Value.int tie])).length) Slot.unset).toArray = ls at hl ⊢
  have hl : lv_has ls 5 [(0, Value.ref h1), (1, Value.int (iI s0)), (2, Value.int (nI fg)), (3, Value.int tie)] := hl
  rw [← hHe]
  refine lv_aload_n hx hb dX3_ask_0 rfl (lv_at hl 0 rfl) ?_
  refine lv_iload_n hx hb dX3_ask_1 rfl (lv_at hl 1 rfl) ?_
  refine lv_iload_n hx hb dX3_ask_2 rfl (lv_at hl 2 rfl) ?_
  refine lv_iload_n hx hb dX3_ask_3 rfl (lv_at hl 3 rfl) ?_
  have hpd9 := pdf_N (cx := []) hP hD hS hA [] (by decide) rfl
  have hPc := hpd9.1
  have hDc := hpd9.2.1
  have hFc := hpd9.2.2
  clear hpd9
  refine va_calli (va_runSU (hK.1 3 _ rfl).2 (As := [Value.int (iI s0), Value.int (nI fg), Value.int tie]) (rest := []) ⟨hx, hb, hml, hown, hts⟩ (c_X0_ask l dC dI aC H.size h1 s0 fg tie (hs) (hfg)) (va_cwSU 3 hts (gcons (gw kw_379 rfl) (gcons (gw kw_369 rfl) (gcons (gw kw_111 rfl) (gcons (gw kw_367 rfl) (gcons (gw kw_4 rfl) (gG kw_392)))))) rfl rfl rfl (by decide +kernel) ⟨Nat.le_of_ble_eq_true rfl, Nat.le_of_ble_eq_true rfl⟩) ⟨fb_std, va_recv (q := (RX3, TX3, 0)) hK hP (ci := 3) (q0 := 0) rfl rfl, pre_std hPc hK hDc hN⟩ rfl rfl hl.1 rfl (lv_room (Nat.le_of_ble_eq_true rfl)) dX3_ask_4 ⟨Nat.le_of_ble_eq_true rfl, Nat.le_of_ble_eq_true rfl⟩) hS (fun q _ h => hFc q h) hFc (fun x_1 u9 t9 H1 locs ht hvm hw_1 hB hz1 hk1 hS => ?_)
  obtain ⟨hP1, hK1, hD1⟩ := hB
  rw [ht] at hP1
  clear hK1
  try dsimp only at hw_1
  have hpd9 : PDx (dC, dI) classes A H1 [cO h1 3 []] := jn_N (wr := [cO h1 3 []]) hFc hk1 hP1 hD1 hP hD [] [0] rfl rfl (by decide) (by decide)
  have hP := hpd9.1
  have hD := hpd9.2
  clear hpd9
  generalize H1 = H at hP hS ⊢
  clear hPc hDc hFc hz1 hk1 hP1 hD1 ht hvm
  have hz_4 := hw_1
  refine lv_istore (lv' := [(4, Value.int x_1), (0, Value.ref h1), (1, Value.int (iI s0)), (2, Value.int (nI fg)), (3, Value.int tie)]) hx hb dX3_ask_7 hl (by decide) rfl (fun ls hl => ?_)
  refine lv_iload_n hx hb dX3_ask_9 rfl (lv_at hl 2 rfl) ?_
  refine lv_if_lt (tgt := 20) hx hb dX3_ask_10 (by decide) (fun c_2 => ?_) (fun c_2 => ?_)
  · refine lv_iload hx hb dX3_ask_20 (lv_at hl 0 rfl) ?_
    have hpd9 := pd_N (cx := [cO h1 3 []]) hP hD [0] (by decide) rfl
    have hP9 := hpd9.1
    have hD9 := hpd9.2
    refine W.widen (k := 0) (n := 0) (by omega) (by omega) ?_
    exact W.iret (v := x_1) hx hb hr (fun t ht hW => ⟨⟨x_1, (), rfl, by rw [hz_4]; unfold env; rw [if_neg (by rw [← iI_0, iI_lt (by unfold sm; omega) sm0] at c_2; omega)], by rw [ht]; exact hP9, va_K.moved hW.alike hK, hD9⟩, hS.F ht⟩) hS.2.2 dX3_ask_22
  · refine lv_iload hx hb dX3_ask_13 (lv_at hl 0 rfl) ?_
    refine lv_iconst (v := 1) hx hb dX3_ask_15 (by decide) ?_
    refine lv_iadd hx hb dX3_ask_16 ?_
    refine lv_topi (fun x_3 e_3 => ?_)
    refine lv_goto (tgt := 22) hx hb dX3_ask_17 (by decide) ?_
    have hpd9 := pd_N (cx := [cO h1 3 []]) hP hD [0] (by decide) rfl
    have hP9 := hpd9.1
    have hD9 := hpd9.2
    refine W.widen (k := 0) (n := 0) (by omega) (by omega) ?_
    exact W.iret (v := x_3) hx hb hr (fun t ht hW => ⟨⟨x_3, (), rfl, by rw [e_3, hz_4, nI_1]; unfold env; rw [if_pos (by rw [← iI_0, iI_lt (by unfold sm; omega) sm0] at c_2; omega)], by rw [ht]; exact hP9, va_K.moved hW.alike hK, hD9⟩, hS.F ht⟩) hS.2.2 dX3_ask_22

set_option maxHeartbeats 1000000 in
set_option maxRecDepth 100000 in
/-- X3_ask_10 -/
theorem c_X3_ask_10 (l : Launch) (dC : Nat → ClassId) (dI : Nat → Nat → Nat) (aC : Nat → ClassId) (sz : Nat) (h1 : Nat) (s0 : Int) (fg : Nat) (tie : Int32) (hs : -1 ≤ s0 ∧ s0 ≤ 99) (hfg : fg ≤ 9) : Met l yX3_ask (wW yX3_ask cX3_ask 5 (some .int)) ({ frames := 1, cells := 0, slots := 0, locals := 24 } : Room) (va_Pc [Value.ref h1, Value.int (iI s0), Value.int (nI fg), Value.int tie] (fun U => U.heap.size = sz ∧ va_P (dC, dI) classes [cO h1 10 []] U.heap ∧ va_K (dC, dI) classes (TY aC) U ∧ va_D (fun _ => True) [cO h1 10 []] ∧ NX U)) (va_Qi (fun (r : Int32) (_ : Unit) => r = nI (env tie s0)) (fun (_ : Unit) (t : State) => va_P (dC, dI) classes [cO h1 10 []] t.heap ∧ va_K (dC, dI) classes (TY aC) t ∧ va_D (va_A [cO h1 10 []] sz) [cO h1 10 []]) (va_A [cO h1 10 []] sz)) 0 0 (va_A [cO h1 10 []] sz) := by
  refine Met.ofW (cc := cX3_ask) (maxL := 5) (ret := (some .int)) (by decide) rfl ?_
  intro p e s m args below meth c s₁ B hml hv
  obtain ⟨rfl, hsz, hP, hK, hD0, hN⟩ := hv
  have hx := B.exec
  have hb := B.bytes
  have hr := B.returns
  have hts0 := atoms_spec (ws := (wW yX3_ask cX3_ask 5 (some .int))) B.pre
  have hts : ∀ w9 ∈ lw_G, w9.before ([Value.ref h1, Value.int (iI s0), Value.int (nI fg), Value.int tie] : List Value).toArray s = true := fun w9 h9 => hts0 w9 (List.mem_cons_of_mem _ h9)
  have hown : s.vm.findClass RX3 = some m.cls := findClass_of_methodNamed (x := yX3_ask) B.named
  have hlocks := B.notSynchronized
  subst hsz
  have hD := hD0.self (sz := s.heap.size)
  generalize hAe : va_A [cO h1 10 []] s.heap.size = A at hD ⊢
  have hA : ∀ q : Nat, s.heap.size ≤ q → A q := fun q h => by rw [← hAe]; exact Or.inr h
  obtain ⟨H, hHe⟩ : ∃ H : Heap, H = s.heap := ⟨_, rfl⟩
  have hS : va_S A s.heap H [] := by rw [hHe]; exact va_S.rf
  have hP : va_P (dC, dI) classes [cO h1 10 []] H := by rw [hHe]; exact hP
  have hl := lv_entry ([Value.ref h1, Value.int (iI s0), Value.int (nI fg), Value.int tie]) (n := 5) (Nat.le_of_ble_eq_true rfl)
  rw [lg_entry_eq]
  generalize (lg_sl ([Value.ref h1, Value.int (iI s0), Value.int (nI fg), Value.int tie]) ++ List.replicate (5 - (lg_sl ([Value.ref h1, Value.int (iI s0), Value.int (nI fg), Value.int tie])).length) Slot.unset).toArray = ls at hl ⊢
  have hl : lv_has ls 5 [(0, Value.ref h1), (1, Value.int (iI s0)), (2, Value.int (nI fg)), (3, Value.int tie)] := hl
  rw [← hHe]
  refine lv_aload_n hx hb dX3_ask_0 rfl (lv_at hl 0 rfl) ?_
  refine lv_iload_n hx hb dX3_ask_1 rfl (lv_at hl 1 rfl) ?_
  refine lv_iload_n hx hb dX3_ask_2 rfl (lv_at hl 2 rfl) ?_
  refine lv_iload_n hx hb dX3_ask_3 rfl (lv_at hl 3 rfl) ?_
  have hpd9 := pdf_N (cx := []) hP hD hS hA [] (by decide) rfl
  have hPc := hpd9.1
  have hDc := hpd9.2.1
  have hFc := hpd9.2.2
  clear hpd9
  refine va_calli (va_runSU (hK.1 10 _ rfl).2 (As := [Value.int (iI s0), Value.int (nI fg), Value.int tie]) (rest := []) ⟨hx, hb, hml, hown, hts⟩ (c_X0_ask l dC dI aC H.size h1 s0 fg tie (hs) (hfg)) (va_cwSU 3 hts (gcons (gw kw_379 rfl) (gcons (gw kw_369 rfl) (gcons (gw kw_111 rfl) (gcons (gw kw_367 rfl) (gcons (gw kw_4 rfl) (gG kw_392)))))) rfl rfl rfl (by decide +kernel) ⟨Nat.le_of_ble_eq_true rfl, Nat.le_of_ble_eq_true rfl⟩) ⟨fb_std, va_recv (q := (RX10, TX10, 0)) hK hP (ci := 10) (q0 := 0) rfl rfl, pre_std hPc hK hDc hN⟩ rfl rfl hl.1 rfl (lv_room (Nat.le_of_ble_eq_true rfl)) dX3_ask_4 ⟨Nat.le_of_ble_eq_true rfl, Nat.le_of_ble_eq_true rfl⟩) hS (fun q _ h => hFc q h) hFc (fun x_1 u9 t9 H1 locs ht hvm hw_1 hB hz1 hk1 hS => ?_)
  obtain ⟨hP1, hK1, hD1⟩ := hB
  rw [ht] at hP1
  clear hK1
  try dsimp only at hw_1
  have hpd9 : PDx (dC, dI) classes A H1 [cO h1 10 []] := jn_N (wr := [cO h1 10 []]) hFc hk1 hP1 hD1 hP hD [] [0] rfl rfl (by decide) (by decide)
  have hP := hpd9.1
  have hD := hpd9.2
  clear hpd9
  generalize H1 = H at hP hS ⊢
  clear hPc hDc hFc hz1 hk1 hP1 hD1 ht hvm
  have hz_4 := hw_1
  refine lv_istore (lv' := [(4, Value.int x_1), (0, Value.ref h1), (1, Value.int (iI s0)), (2, Value.int (nI fg)), (3, Value.int tie)]) hx hb dX3_ask_7 hl (by decide) rfl (fun ls hl => ?_)
  refine lv_iload_n hx hb dX3_ask_9 rfl (lv_at hl 2 rfl) ?_
  refine lv_if_lt (tgt := 20) hx hb dX3_ask_10 (by decide) (fun c_2 => ?_) (fun c_2 => ?_)
  · refine lv_iload hx hb dX3_ask_20 (lv_at hl 0 rfl) ?_
    have hpd9 := pd_N (cx := [cO h1 10 []]) hP hD [0] (by decide) rfl
    have hP9 := hpd9.1
    have hD9 := hpd9.2
    refine W.widen (k := 0) (n := 0) (by omega) (by omega) ?_
    exact W.iret (v := x_1) hx hb hr (fun t ht hW => ⟨⟨x_1, (), rfl, by rw [hz_4]; unfold env; rw [if_neg (by rw [← iI_0, iI_lt (by unfold sm; omega) sm0] at c_2; omega)], by rw [ht]; exact hP9, va_K.moved hW.alike hK, hD9⟩, hS.F ht⟩) hS.2.2 dX3_ask_22
  · refine lv_iload hx hb dX3_ask_13 (lv_at hl 0 rfl) ?_
    refine lv_iconst (v := 1) hx hb dX3_ask_15 (by decide) ?_
    refine lv_iadd hx hb dX3_ask_16 ?_
    refine lv_topi (fun x_3 e_3 => ?_)
    refine lv_goto (tgt := 22) hx hb dX3_ask_17 (by decide) ?_
    have hpd9 := pd_N (cx := [cO h1 10 []]) hP hD [0] (by decide) rfl
    have hP9 := hpd9.1
    have hD9 := hpd9.2
    refine W.widen (k := 0) (n := 0) (by omega) (by omega) ?_
    exact W.iret (v := x_3) hx hb hr (fun t ht hW => ⟨⟨x_3, (), rfl, by rw [e_3, hz_4, nI_1]; unfold env; rw [if_pos (by rw [← iI_0, iI_lt (by unfold sm; omega) sm0] at c_2; omega)], by rw [ht]; exact hP9, va_K.moved hW.alike hK, hD9⟩, hS.F ht⟩) hS.2.2 dX3_ask_22

set_option maxHeartbeats 1000000 in
set_option maxRecDepth 100000 in
/-- X6_ask -/
theorem c_X6_ask (l : Launch) (dC : Nat → ClassId) (dI : Nat → Nat → Nat) (aC : Nat → ClassId) (sz : Nat) (h1 : Nat) (s0 : Int) (fg : Nat) (tie : Int32) (hs : -1 ≤ s0 ∧ s0 ≤ 99) (hfg : fg ≤ 9) : Met l yX6_ask (wW yX6_ask cX6_ask 4 (some .int)) ({ frames := 0, cells := 0, slots := 0, locals := 0 } : Room) (va_Pc [Value.ref h1, Value.int (iI s0), Value.int (nI fg), Value.int tie] (fun U => U.heap.size = sz ∧ va_P (dC, dI) classes [] U.heap ∧ va_K (dC, dI) classes (TY aC) U ∧ va_D (fun _ => True) [] ∧ NX U)) (va_Qi (fun (r : Int32) (_ : Unit) => r = nI fg) (fun (_ : Unit) (t : State) => va_P (dC, dI) classes [] t.heap ∧ va_K (dC, dI) classes (TY aC) t ∧ va_D (va_A [] sz) []) (va_A [] sz)) 0 0 (va_A [] sz) := by
  refine Met.ofW (cc := cX6_ask) (maxL := 4) (ret := (some .int)) (by decide) rfl ?_
  intro p e s m args below meth c s₁ B hml hv
  obtain ⟨rfl, hsz, hP, hK, hD0, hN⟩ := hv
  have hx := B.exec
  have hb := B.bytes
  have hr := B.returns
  have hts0 := atoms_spec (ws := (wW yX6_ask cX6_ask 4 (some .int))) B.pre
  have hts : ∀ w9 ∈ lw_G, w9.before ([Value.ref h1, Value.int (iI s0), Value.int (nI fg), Value.int tie] : List Value).toArray s = true := fun w9 h9 => hts0 w9 (List.mem_cons_of_mem _ h9)
  have hown : s.vm.findClass RX6 = some m.cls := findClass_of_methodNamed (x := yX6_ask) B.named
  have hlocks := B.notSynchronized
  subst hsz
  have hD := hD0.self (sz := s.heap.size)
  generalize hAe : va_A [] s.heap.size = A at hD ⊢
  have hA : ∀ q : Nat, s.heap.size ≤ q → A q := fun q h => by rw [← hAe]; exact Or.inr h
  obtain ⟨H, hHe⟩ : ∃ H : Heap, H = s.heap := ⟨_, rfl⟩
  have hS : va_S A s.heap H [] := by rw [hHe]; exact va_S.rf
  have hP : va_P (dC, dI) classes [] H := by rw [hHe]; exact hP
  have hl := lv_entry ([Value.ref h1, Value.int (iI s0), Value.int (nI fg), Value.int tie]) (n := 4) (Nat.le_of_ble_eq_true rfl)
  rw [lg_entry_eq]
  generalize (lg_sl ([Value.ref h1, Value.int (iI s0), Value.int (nI fg), Value.int tie]) ++ List.replicate (4 - (lg_sl ([Value.ref h1, Value.int (iI s0), Value.int (nI fg), Value.int tie])).length) Slot.unset).toArray = ls at hl ⊢
  have hl : lv_has ls 4 [(0, Value.ref h1), (1, Value.int (iI s0)), (2, Value.int (nI fg)), (3, Value.int tie)] := hl
  rw [← hHe]
  refine lv_iload_n hx hb dX6_ask_0 rfl (lv_at hl 2 rfl) ?_
  have hpd9 := pd_N (cx := []) hP hD [] (by decide) rfl
  have hP9 := hpd9.1
  have hD9 := hpd9.2
  refine W.widen (k := 0) (n := 0) (by omega) (by omega) ?_
  exact W.iret (v := nI fg) hx hb hr (fun t ht hW => ⟨⟨(nI fg), (), rfl, rfl, by rw [ht]; exact hP9, va_K.moved hW.alike hK, hD9⟩, hS.F ht⟩) hS.2.2 dX6_ask_1

set_option maxHeartbeats 1000000 in
set_option maxRecDepth 100000 in
/-- X10_ask -/
theorem c_X10_ask (l : Launch) (dC : Nat → ClassId) (dI : Nat → Nat → Nat) (aC : Nat → ClassId) (sz : Nat) (h1 : Nat) (s0 : Int) (fg : Nat) (tie : Int32) (hs : -1 ≤ s0 ∧ s0 ≤ 99) (hfg : fg ≤ 9) : Met l yX10_ask (wW yX10_ask cX10_ask 4 (some .int)) ({ frames := 2, cells := 0, slots := 0, locals := 48 } : Room) (va_Pc [Value.ref h1, Value.int (iI s0), Value.int (nI fg), Value.int tie] (fun U => U.heap.size = sz ∧ va_P (dC, dI) classes [cO h1 10 []] U.heap ∧ va_K (dC, dI) classes (TY aC) U ∧ va_D (fun _ => True) [cO h1 10 []] ∧ NX U)) (va_Qi (fun (r : Int32) (_ : Unit) => r = nI (env tie s0 + fg)) (fun (_ : Unit) (t : State) => va_P (dC, dI) classes [cO h1 10 []] t.heap ∧ va_K (dC, dI) classes (TY aC) t ∧ va_D (va_A [cO h1 10 []] sz) [cO h1 10 []]) (va_A [cO h1 10 []] sz)) 0 0 (va_A [cO h1 10 []] sz) := by
  refine Met.ofW (cc := cX10_ask) (maxL := 4) (ret := (some .int)) (by decide) rfl ?_
  intro p e s m args below meth c s₁ B hml hv
  obtain ⟨rfl, hsz, hP, hK, hD0, hN⟩ := hv
  have hx := B.exec
  have hb := B.bytes
  have hr := B.returns
  have hts0 := atoms_spec (ws := (wW yX10_ask cX10_ask 4 (some .int))) B.pre
  have hts : ∀ w9 ∈ lw_G, w9.before ([Value.ref h1, Value.int (iI s0), Value.int (nI fg), Value.int tie] : List Value).toArray s = true := fun w9 h9 => hts0 w9 (List.mem_cons_of_mem _ h9)
  have hown : s.vm.findClass RX10 = some m.cls := findClass_of_methodNamed (x := yX10_ask) B.named
  have hlocks := B.notSynchronized
  subst hsz
  have hD := hD0.self (sz := s.heap.size)
  generalize hAe : va_A [cO h1 10 []] s.heap.size = A at hD ⊢
  have hA : ∀ q : Nat, s.heap.size ≤ q → A q := fun q h => by rw [← hAe]; exact Or.inr h
  obtain ⟨H, hHe⟩ : ∃ H : Heap, H = s.heap := ⟨_, rfl⟩
  have hS : va_S A s.heap H [] := by rw [hHe]; exact va_S.rf
  have hP : va_P (dC, dI) classes [cO h1 10 []] H := by rw [hHe]; exact hP
  have hl := lv_entry ([Value.ref h1, Value.int (iI s0), Value.int (nI fg), Value.int tie]) (n := 4) (Nat.le_of_ble_eq_true rfl)
  rw [lg_entry_eq]
  generalize (lg_sl ([Value.ref h1, Value.int (iI s0), Value.int (nI fg), Value.int tie]) ++ List.replicate (4 - (lg_sl ([Value.ref h1, Value.int (iI s0), Value.int (nI fg), Value.int tie])).length) Slot.unset).toArray = ls at hl ⊢
  have hl : lv_has ls 4 [(0, Value.ref h1), (1, Value.int (iI s0)), (2, Value.int (nI fg)), (3, Value.int tie)] := hl
  rw [← hHe]
  refine lv_aload_n hx hb dX10_ask_0 rfl (lv_at hl 0 rfl) ?_
  refine lv_iload_n hx hb dX10_ask_1 rfl (lv_at hl 1 rfl) ?_
  refine lv_iload_n hx hb dX10_ask_2 rfl (lv_at hl 2 rfl) ?_
  refine lv_iload_n hx hb dX10_ask_3 rfl (lv_at hl 3 rfl) ?_
  have hpd9 := pdf_N (cx := [cO h1 10 []]) hP hD hS hA [0] (by decide) rfl
  have hPc := hpd9.1
  have hDc := hpd9.2.1
  have hFc := hpd9.2.2
  clear hpd9
  refine va_calli (va_runSU (hK.1 10 _ rfl).2 (As := [Value.int (iI s0), Value.int (nI fg), Value.int tie]) (rest := []) ⟨hx, hb, hml, hown, hts⟩ (c_X3_ask_10 l dC dI aC H.size h1 s0 fg tie (hs) (hfg)) (va_cwSU 3 hts (gcons (gw kw_391 rfl) (gcons (gw kw_1099 rfl) (gcons (gw kw_132 rfl) (gcons (gw kw_377 rfl) (gcons (gw kw_6 rfl) (gG kw_378)))))) rfl rfl rfl (by decide +kernel) ⟨Nat.le_of_ble_eq_true rfl, Nat.le_of_ble_eq_true rfl⟩) ⟨fb_std, va_recv (q := (RX10, TX10, 0)) hK hPc (ci := 10) (q0 := 0) rfl rfl, pre_std hPc hK hDc hN⟩ rfl rfl hl.1 rfl (lv_room (Nat.le_of_ble_eq_true rfl)) dX10_ask_4 ⟨Nat.le_of_ble_eq_true rfl, Nat.le_of_ble_eq_true rfl⟩) hS (fun q _ h => hFc q h) hFc (fun x_1 u9 t9 H1 locs ht hvm hw_1 hB hz1 hk1 hS => ?_)
  obtain ⟨hP1, hK1, hD1⟩ := hB
  rw [ht] at hP1
  clear hK1
  try dsimp only at hw_1
  have hpd9 : PDx (dC, dI) classes A H1 [cO h1 10 []] := jn_N (wr := []) hFc hk1 hP1 hD1 hP hD [0] [] rfl rfl (by decide) (by decide)
  have hP := hpd9.1
  have hD := hpd9.2
  clear hpd9
  generalize H1 = H at hP hS ⊢
  clear hPc hDc hFc hz1 hk1 hP1 hD1 ht hvm
  have hz_4 := hw_1
  refine lv_iload_n hx hb dX10_ask_7 rfl (lv_at hl 2 rfl) ?_
  refine lv_iadd hx hb dX10_ask_8 ?_
  refine lv_topi (fun x_2 e_2 => ?_)
  have hpd9 := pd_N (cx := [cO h1 10 []]) hP hD [0] (by decide) rfl
  have hP9 := hpd9.1
  have hD9 := hpd9.2
  refine W.widen (k := 0) (n := 0) (by omega) (by omega) ?_
  exact W.iret (v := x_2) hx hb hr (fun t ht hW => ⟨⟨x_2, (), rfl, by rw [e_2, hz_4, nI_add], by rw [ht]; exact hP9, va_K.moved hW.alike hK, hD9⟩, hS.F ht⟩) hS.2.2 dX10_ask_9

set_option maxHeartbeats 1000000 in
set_option maxRecDepth 100000 in
/-- X8_ask -/
theorem c_X8_ask (l : Launch) (dC : Nat → ClassId) (dI : Nat → Nat → Nat) (aC : Nat → ClassId) (sz : Nat) (h1 : Nat) (s0 : Int) (fg : Nat) (tie : Int32) (hs : -1 ≤ s0 ∧ s0 ≤ 99) (hfg : fg ≤ 9) : Met l yX8_ask (wW yX8_ask cX8_ask 4 (some .int)) ({ frames := 1, cells := 0, slots := 0, locals := 23 } : Room) (va_Pc [Value.ref h1, Value.int (iI s0), Value.int (nI fg), Value.int tie] (fun U => U.heap.size = sz ∧ va_P (dC, dI) classes [cO h1 8 []] U.heap ∧ va_K (dC, dI) classes (TY aC) U ∧ va_D (fun _ => True) [cO h1 8 []] ∧ NX U)) (va_Qi (fun (r : Int32) (_ : Unit) => r = nI (fg / 2)) (fun (_ : Unit) (t : State) => va_P (dC, dI) classes [cO h1 8 []] t.heap ∧ va_K (dC, dI) classes (TY aC) t ∧ va_D (va_A [cO h1 8 []] sz) [cO h1 8 []]) (va_A [cO h1 8 []] sz)) 0 0 (va_A [cO h1 8 []] sz) := by
  refine Met.ofW (cc := cX8_ask) (maxL := 4) (ret := (some .int)) (by decide) rfl ?_
  intro p e s m args below meth c s₁ B hml hv
  obtain ⟨rfl, hsz, hP, hK, hD0, hN⟩ := hv
  have hx := B.exec
  have hb := B.bytes
  have hr := B.returns
  have hts0 := atoms_spec (ws := (wW yX8_ask cX8_ask 4 (some .int))) B.pre
  have hts : ∀ w9 ∈ lw_G, w9.before ([Value.ref h1, Value.int (iI s0), Value.int (nI fg), Value.int tie] : List Value).toArray s = true := fun w9 h9 => hts0 w9 (List.mem_cons_of_mem _ h9)
  have hown : s.vm.findClass RX8 = some m.cls := findClass_of_methodNamed (x := yX8_ask) B.named
  have hlocks := B.notSynchronized
  subst hsz
  have hD := hD0.self (sz := s.heap.size)
  generalize hAe : va_A [cO h1 8 []] s.heap.size = A at hD ⊢
  have hA : ∀ q : Nat, s.heap.size ≤ q → A q := fun q h => by rw [← hAe]; exact Or.inr h
  obtain ⟨H, hHe⟩ : ∃ H : Heap, H = s.heap := ⟨_, rfl⟩
  have hS : va_S A s.heap H [] := by rw [hHe]; exact va_S.rf
  have hP : va_P (dC, dI) classes [cO h1 8 []] H := by rw [hHe]; exact hP
  have hl := lv_entry ([Value.ref h1, Value.int (iI s0), Value.int (nI fg), Value.int tie]) (n := 4) (Nat.le_of_ble_eq_true rfl)
  rw [lg_entry_eq]
  generalize (lg_sl ([Value.ref h1, Value.int (iI s0), Value.int (nI fg), Value.int tie]) ++ List.replicate (4 - (lg_sl ([Value.ref h1, Value.int (iI s0), Value.int (nI fg), Value.int tie])).length) Slot.unset).toArray = ls at hl ⊢
  have hl : lv_has ls 4 [(0, Value.ref h1), (1, Value.int (iI s0)), (2, Value.int (nI fg)), (3, Value.int tie)] := hl
  rw [← hHe]
  refine lv_aload_n hx hb dX8_ask_0 rfl (lv_at hl 0 rfl) ?_
  refine lv_iload_n hx hb dX8_ask_1 rfl (lv_at hl 1 rfl) ?_
  refine lv_iload_n hx hb dX8_ask_2 rfl (lv_at hl 2 rfl) ?_
  refine lv_iload_n hx hb dX8_ask_3 rfl (lv_at hl 3 rfl) ?_
  have hpd9 := pdf_N (cx := []) hP hD hS hA [] (by decide) rfl
  have hPc := hpd9.1
  have hDc := hpd9.2.1
  have hFc := hpd9.2.2
  clear hpd9
  refine va_calli (va_runSU (hK.1 8 _ rfl).2 (As := [Value.int (iI s0), Value.int (nI fg), Value.int tie]) (rest := []) ⟨hx, hb, hml, hown, hts⟩ (c_X6_ask l dC dI aC H.size h1 s0 fg tie (hs) (hfg)) (va_cwSU 3 hts (gcons (gw kw_387 rfl) (gcons (gw kw_1098 rfl) (gcons (gw kw_139 rfl) (gcons (gw kw_382 rfl) (gcons (gw kw_8 rfl) (gG kw_383)))))) rfl rfl rfl (by decide +kernel) ⟨Nat.le_of_ble_eq_true rfl, Nat.le_of_ble_eq_true rfl⟩) ⟨fb_std, va_recv (q := (RX8, TX8, 0)) hK hP (ci := 8) (q0 := 0) rfl rfl, pre_std hPc hK hDc hN⟩ rfl rfl hl.1 rfl (lv_room (Nat.le_of_ble_eq_true rfl)) dX8_ask_4 ⟨Nat.le_of_ble_eq_true rfl, Nat.le_of_ble_eq_true rfl⟩) hS (fun q _ h => hFc q h) hFc (fun x_1 u9 t9 H1 locs ht hvm hw_1 hB hz1 hk1 hS => ?_)
  obtain ⟨hP1, hK1, hD1⟩ := hB
  rw [ht] at hP1
  clear hK1
  try dsimp only at hw_1
  have hpd9 : PDx (dC, dI) classes A H1 [cO h1 8 []] := jn_N (wr := [cO h1 8 []]) hFc hk1 hP1 hD1 hP hD [] [0] rfl rfl (by decide) (by decide)
  have hP := hpd9.1
  have hD := hpd9.2
  clear hpd9
  generalize H1 = H at hP hS ⊢
  clear hPc hDc hFc hz1 hk1 hP1 hD1 ht hvm
  have hz_4 := hw_1
  refine lv_iconst (v := 2) hx hb dX8_ask_7 (by decide) ?_
  refine lv_idiv hx hb dX8_ask_8 (by decide) ?_
  refine lv_topi (fun x_2 e_2 => ?_)
  have hpd9 := pd_N (cx := [cO h1 8 []]) hP hD [0] (by decide) rfl
  have hP9 := hpd9.1
  have hD9 := hpd9.2
  refine W.widen (k := 0) (n := 0) (by omega) (by omega) ?_
  exact W.iret (v := x_2) hx hb hr (fun t ht hW => ⟨⟨x_2, (), rfl, by rw [e_2, hz_4]; exact pk_div (d := 2) (by omega) (by omega) (by omega), by rw [ht]; exact hP9, va_K.moved hW.alike hK, hD9⟩, hS.F ht⟩) hS.2.2 dX8_ask_9

end

section
/-! 32.plans1 -/
set_option maxHeartbeats 1000000 in
set_option maxRecDepth 100000 in
/-- X9_kindOf -/
theorem c_X9_kindOf (l : Launch) (dC : Nat → ClassId) (dI : Nat → Nat → Nat) (aC : Nat → ClassId) (sz : Nat) (h1 : Nat) (po : Nat) (pp : Nat) (ps : Nat) (pa : Nat) (pe : Nat) (pb : Nat) (pv : Nat) (pk : Nat) (pu : Nat) (pw : Nat) (pq : Nat) (pt : Nat) (un : Int32) (fw : Int32) (ek : Nat) (ef : Nat) (ew : Nat) (ep : Nat) (es : Nat) (n : Nat) (sy : Int32) (dn : Int32) (kf : Nat → Int32) (fk : Nat → Option Nat) (j : Nat) (kk : Nat) (ka : Nat) (hj : j < 8) (hkj : kf j = nI kk) (hkk : kk ≤ 6) (hka : fk kk = some ka) : Met l yX9_kindOf (wW yX9_kindOf cX9_kindOf 3 (some (.object "EldestSays$Clever"))) ({ frames := 0, cells := 0, slots := 0, locals := 0 } : Room) (va_Pc [Value.ref h1, Value.int (nI j)] (fun U => U.heap.size = sz ∧ va_P (dC, dI) classes [oX9 h1 po pp ps pa pe pb pv pk pu pw pq pt un fw, oX4 pv ek ef ew ep es (nI n) sy dn, cI aC ek 8 kf, cK aC pk 7 fk] U.heap ∧ va_K (dC, dI) classes (TY aC) U ∧ va_D (fun _ => True) [oX9 h1 po pp ps pa pe pb pv pk pu pw pq pt un fw, oX4 pv ek ef ew ep es (nI n) sy dn, cI aC ek 8 kf, cK aC pk 7 fk] ∧ NX U)) (va_Qr (fun (_ : Unit) => True) (fun (_ : Unit) (ra : Nat) (t : State) => ra = ka ∧ va_P (dC, dI) classes [oX9 h1 po pp ps pa pe pb pv pk pu pw pq pt un fw, oX4 pv ek ef ew ep es (nI n) sy dn, cI aC ek 8 kf, cK aC pk 7 fk] t.heap ∧ va_K (dC, dI) classes (TY aC) t ∧ va_D (va_A [oX9 h1 po pp ps pa pe pb pv pk pu pw pq pt un fw, oX4 pv ek ef ew ep es (nI n) sy dn, cI aC ek 8 kf, cK aC pk 7 fk] sz) [oX9 h1 po pp ps pa pe pb pv pk pu pw pq pt un fw, oX4 pv ek ef ew ep es (nI n) sy dn, cI aC ek 8 kf, cK aC pk 7 fk]) (va_A [oX9 h1 po pp ps pa pe pb pv pk pu pw pq pt un fw, oX4 pv ek ef ew ep es (nI n) sy dn, cI aC ek 8 kf, cK aC pk 7 fk] sz)) 0 0 (va_A [oX9 h1 po pp ps pa pe pb pv pk pu pw pq pt un fw, oX4 pv ek ef ew ep es (nI n) sy dn, cI aC ek 8 kf, cK aC pk 7 fk] sz) := by
  refine Met.ofW (cc := cX9_kindOf) (maxL := 3) (ret := (some (.object "EldestSays$Clever"))) (by decide) rfl ?_
  intro p e s m args below meth c s₁ B hml hv
  obtain ⟨rfl, hsz, hP, hK, hD0, hN⟩ := hv
  have hx := B.exec
  have hb := B.bytes
  have hr := B.returns
  have hts0 := atoms_spec (ws := (wW yX9_kindOf cX9_kindOf 3 (some (.object "EldestSays$Clever")))) B.pre
  have hts : ∀ w9 ∈ lw_G, w9.before ([Value.ref h1, Value.int (nI j)] : List Value).toArray s = true := fun w9 h9 => hts0 w9 (List.mem_cons_of_mem _ h9)
  have hown : s.vm.findClass RX9 = some m.cls := findClass_of_methodNamed (x := yX9_kindOf) B.named
  have hlocks := B.notSynchronized
  subst hsz
  have hD := hD0.self (sz := s.heap.size)
  generalize hAe : va_A [oX9 h1 po pp ps pa pe pb pv pk pu pw pq pt un fw, oX4 pv ek ef ew ep es (nI n) sy dn, cI aC ek 8 kf, cK aC pk 7 fk] s.heap.size = A at hD ⊢
  have hA : ∀ q : Nat, s.heap.size ≤ q → A q := fun q h => by rw [← hAe]; exact Or.inr h
  obtain ⟨H, hHe⟩ : ∃ H : Heap, H = s.heap := ⟨_, rfl⟩
  have hS : va_S A s.heap H [] := by rw [hHe]; exact va_S.rf
  have hP : va_P (dC, dI) classes [oX9 h1 po pp ps pa pe pb pv pk pu pw pq pt un fw, oX4 pv ek ef ew ep es (nI n) sy dn, cI aC ek 8 kf, cK aC pk 7 fk] H := by rw [hHe]; exact hP
  have hl := lv_entry ([Value.ref h1, Value.int (nI j)]) (n := 3) (Nat.le_of_ble_eq_true rfl)
  rw [lg_entry_eq]
  generalize (lg_sl ([Value.ref h1, Value.int (nI j)]) ++ List.replicate (3 - (lg_sl ([Value.ref h1, Value.int (nI j)])).length) Slot.unset).toArray = ls at hl ⊢
  have hl : lv_has ls 3 [(0, Value.ref h1), (1, Value.int (nI j))] := hl
  rw [← hHe]
  refine lv_aload_n hx hb dX9_kindOf_0 rfl (lv_at hl 0 rfl) ?_
  refine va_get (D := (dC, dI)) (ci := 9) (v := Value.ref pv) (C := RX9) (T := TX9) (N := 14) hx hb hts inX9 hown hK hP 0 rfl rfl 6 (by decide) (hts _ (gw kw_162 rfl)) (fun _ h9 => h9) rfl dX9_kindOf_1 ?_
  refine va_get (D := (dC, dI)) (ci := 4) (v := Value.ref ek) (C := RX4) (T := TX4) (N := 8) hx hb hts inX4 hown hK hP 1 rfl rfl 0 (by decide) (hts _ (gw kw_33 rfl)) (fun _ h9 => h9) rfl dX9_kindOf_4 ?_
  refine lv_iload_n hx hb dX9_kindOf_7 rfl (lv_at hl 1 rfl) ?_
  have h_1 : vp_in (nI j) 8 := vp_in_nI (by omega) (by omega)
  refine va_iald hx hb hK hP 2 0 rfl rfl h_1 dX9_kindOf_8 ?_
  refine lv_topi (fun x_2 e_2 => ?_)
  have h9 : x_2 = nI kk := by rw [e_2, nI_clamp (by omega)]; exact hkj
  subst h9
  refine lv_istore_n (lv' := [(2, Value.int (nI kk)), (0, Value.ref h1), (1, Value.int (nI j))]) hx hb dX9_kindOf_9 rfl hl (by decide) rfl (fun ls hl => ?_)
  refine lv_aload_n hx hb dX9_kindOf_10 rfl (lv_at hl 1 rfl) ?_
  refine va_get (D := (dC, dI)) (ci := 9) (v := Value.ref pk) (C := RX9) (T := TX9) (N := 14) hx hb hts inX9 hown hK hP 0 rfl rfl 7 (by decide) (hts _ (gw kw_164 rfl)) (fun _ h9 => h9) rfl dX9_kindOf_11 ?_
  refine lv_iload_n hx hb dX9_kindOf_14 rfl (lv_at hl 0 rfl) ?_
  refine lv_if_lt (tgt := 31) hx hb dX9_kindOf_15 (by decide) (fun c_3 => ?_) (fun c_3 => ?_)
  · exact absurd c_3 (nI_pos (by omega))
  · refine lv_iload_n hx hb dX9_kindOf_18 rfl (lv_at hl 0 rfl) ?_
    refine lv_aload_n hx hb dX9_kindOf_19 rfl (lv_at hl 1 rfl) ?_
    refine va_get (D := (dC, dI)) (ci := 9) (v := Value.ref pk) (C := RX9) (T := TX9) (N := 14) hx hb hts inX9 hown hK hP 0 rfl rfl 7 (by decide) (hts _ (gw kw_164 rfl)) (fun _ h9 => h9) rfl dX9_kindOf_20 ?_
    refine va_alen (v := 7) hx hb hK hP 3 3 rfl rfl rfl dX9_kindOf_23 ?_
    refine lv_icmp_ge (tgt := 31) hx hb dX9_kindOf_24 (by decide) (fun c_4 => ?_) (fun c_4 => ?_)
    · exact absurd ((nI_leI (a := 7) (b := kk) (by omega) (by omega)).mp c_4) (by omega)
    · refine lv_iload_n hx hb dX9_kindOf_27 rfl (lv_at hl 0 rfl) ?_
      refine lv_goto (tgt := 32) hx hb dX9_kindOf_28 (by decide) ?_
      have hka9 : fk (nI kk).toNatClampNeg = some ka := by rw [nI_clamp (by omega)]; exact hka
      have h_5 : vp_in (nI kk) 7 := vp_in_nI (by omega) (by omega)
      refine va_aldk (r := ka) hx hb hK hP 3 rfl h_5 (hka9) dX9_kindOf_32 ?_
      have hpd9 := pd_N (cx := [oX9 h1 po pp ps pa pe pb pv pk pu pw pq pt un fw, oX4 pv ek ef ew ep es (nI n) sy dn, cI aC ek 8 kf, cK aC pk 7 fk]) hP hD [0, 1, 2, 3] (by decide) rfl
      have hP9 := hpd9.1
      have hD9 := hpd9.2
      refine W.widen (k := 0) (n := 0) (by omega) (by omega) ?_
      exact W.aret (v := Value.ref ka) hx hb hr (Or.inl ⟨_, rfl⟩) (Or.inr ⟨_, rfl⟩) (fun t ht hW => ⟨⟨(), ka, rfl, trivial, rfl, by rw [ht]; exact hP9, va_K.moved hW.alike hK, hD9⟩, hS.F ht⟩) hS.2.2 dX9_kindOf_33

set_option maxHeartbeats 1000000 in
set_option maxRecDepth 100000 in
/-- X9_askYounger -/
theorem c_X9_askYounger (l : Launch) (dC : Nat → ClassId) (dI : Nat → Nat → Nat) (aC : Nat → ClassId) (sz : Nat) (h1 : Nat) (po : Nat) (pp : Nat) (ps : Nat) (pa : Nat) (pe : Nat) (pb : Nat) (pv : Nat) (pk : Nat) (pu : Nat) (pw : Nat) (pq : Nat) (pt : Nat) (un : Int32) (fw : Int32) (ek : Nat) (ef : Nat) (ew : Nat) (ep : Nat) (es : Nat) (n : Nat) (sy : Int32) (dn : Int32) (kf : Nat → Int32) (ff : Nat → Int32) (wf : Nat → Int32) (stf : Nat → Int32) (K : Nat → Nat) (F : Nat → Nat) (W0 : Nat → Nat) (cq : Nat) (L : List Nat) (g : Nat → Nat → Int32) (fo : Nat → Option Nat) (fp : Nat → Option Nat) (fs : Nat → Option Nat) (ro : Nat → Nat) (rp : Nat → Nat) (rs : Nat → Nat) (fk : Nat → Option Nat) (k0 : Nat) (k1 : Nat) (k2 : Nat) (k3 : Nat) (k4 : Nat) (k5 : Nat) (k6 : Nat) (i : Nat) (S : Nat → Int) (hgr : GRD L fo fp fs ro rp rs) (hev : EVH n K F W0 cq kf ff wf stf) (hkd : KDS fk k0 k1 k2 k3 k4 k5 k6) (hi : i < n) (hSj : ∀ q, i < q → q < n → g (rs (i + 1)) q = iI (S q) ∧ -1 ≤ S q ∧ S q ≤ 99) : Met l yX9_askYounger (wW yX9_askYounger cX9_askYounger 4 (none : Option FieldType)) ({ frames := 3, cells := 0, slots := 0, locals := 71 } : Room) (va_Pc [Value.ref h1, Value.int (nI i)] (fun U => U.heap.size = sz ∧ va_P (dC, dI) classes (wp [oX9 h1 po pp ps pa pe pb pv pk pu pw pq pt un fw, oX4 pv ek ef ew ep es (nI n) sy dn, cI aC ek 8 kf, cI aC ef 8 ff, cI aC es 5 stf, cA aC pp 8 fp, cA aC ps 8 fs, cK aC pk 7 fk, cO k0 0 [], cO k1 1 [], cO k2 3 [], cO k3 5 [], cO k4 6 [], cO k5 10 [], cO k6 8 []] (va_pl L (plE aC g))) U.heap ∧ va_K (dC, dI) classes (TY aC) U ∧ va_D (fun _ => True) (wp [oX9 h1 po pp ps pa pe pb pv pk pu pw pq pt un fw, oX4 pv ek ef ew ep es (nI n) sy dn, cI aC ek 8 kf, cI aC ef 8 ff, cI aC es 5 stf, cA aC pp 8 fp, cA aC ps 8 fs, cK aC pk 7 fk, cO k0 0 [], cO k1 1 [], cO k2 3 [], cO k3 5 [], cO k4 6 [], cO k5 10 [], cO k6 8 []] (va_pl L (plE aC g))) ∧ NX U)) (va_Qv (fun (g2 : Nat → Nat → Int32) => (∀ q, i < q → q < n → g2 (rp i) q = nI (pr (K q) (F q) (stf 2) (S q))) ∧ ∀ a, a ≠ rp i → g2 a = g a) (fun (g2 : Nat → Nat → Int32) (t : State) => va_P (dC, dI) classes (wp [oX9 h1 po pp ps pa pe pb pv pk pu pw pq pt un fw, oX4 pv ek ef ew ep es (nI n) sy dn, cI aC ek 8 kf, cI aC ef 8 ff, cI aC es 5 stf, cA aC pp 8 fp, cA aC ps 8 fs, cK aC pk 7 fk, cO k0 0 [], cO k1 1 [], cO k2 3 [], cO k3 5 [], cO k4 6 [], cO k5 10 [], cO k6 8 []] (va_pl L (plE aC g2))) t.heap ∧ va_K (dC, dI) classes (TY aC) t ∧ va_D (va_A (wp [oX9 h1 po pp ps pa pe pb pv pk pu pw pq pt un fw, oX4 pv ek ef ew ep es (nI n) sy dn, cI aC ek 8 kf, cI aC ef 8 ff, cI aC es 5 stf, cA aC pp 8 fp, cA aC ps 8 fs, cK aC pk 7 fk, cO k0 0 [], cO k1 1 [], cO k2 3 [], cO k3 5 [], cO k4 6 [], cO k5 10 [], cO k6 8 []] (va_pl L (plE aC g))) sz) (wp [oX9 h1 po pp ps pa pe pb pv pk pu pw pq pt un fw, oX4 pv ek ef ew ep es (nI n) sy dn, cI aC ek 8 kf, cI aC ef 8 ff, cI aC es 5 stf, cA aC pp 8 fp, cA aC ps 8 fs, cK aC pk 7 fk, cO k0 0 [], cO k1 1 [], cO k2 3 [], cO k3 5 [], cO k4 6 [], cO k5 10 [], cO k6 8 []] (va_pl L (plE aC g2)))) (va_A (wp [oX9 h1 po pp ps pa pe pb pv pk pu pw pq pt un fw, oX4 pv ek ef ew ep es (nI n) sy dn, cI aC ek 8 kf, cI aC ef 8 ff, cI aC es 5 stf, cA aC pp 8 fp, cA aC ps 8 fs, cK aC pk 7 fk, cO k0 0 [], cO k1 1 [], cO k2 3 [], cO k3 5 [], cO k4 6 [], cO k5 10 [], cO k6 8 []] (va_pl L (plE aC g))) sz)) 0 0 (va_A (wp [oX9 h1 po pp ps pa pe pb pv pk pu pw pq pt un fw, oX4 pv ek ef ew ep es (nI n) sy dn, cI aC ek 8 kf, cI aC ef 8 ff, cI aC es 5 stf, cA aC pp 8 fp, cA aC ps 8 fs, cK aC pk 7 fk, cO k0 0 [], cO k1 1 [], cO k2 3 [], cO k3 5 [], cO k4 6 [], cO k5 10 [], cO k6 8 []] (va_pl L (plE aC g))) sz) := by
  refine Met.ofW (cc := cX9_askYounger) (maxL := 4) (ret := (none : Option FieldType)) (by decide) rfl ?_
  intro p e s m args below meth c s₁ B hml hv
  obtain ⟨rfl, hsz, hP, hK, hD0, hN⟩ := hv
  have hx := B.exec
  have hb := B.bytes
  have hr := B.returns
  have hts0 := atoms_spec (ws := (wW yX9_askYounger cX9_askYounger 4 (none : Option FieldType))) B.pre
  have hts : ∀ w9 ∈ lw_G, w9.before ([Value.ref h1, Value.int (nI i)] : List Value).toArray s = true := fun w9 h9 => hts0 w9 (List.mem_cons_of_mem _ h9)
  have hown : s.vm.findClass RX9 = some m.cls := findClass_of_methodNamed (x := yX9_askYounger) B.named
  have hlocks := B.notSynchronized
  subst hsz
  have hD := hD0.self (sz := s.heap.size)
  generalize hAe : va_A (wp [oX9 h1 po pp ps pa pe pb pv pk pu pw pq pt un fw, oX4 pv ek ef ew ep es (nI n) sy dn, cI aC ek 8 kf, cI aC ef 8 ff, cI aC es 5 stf, cA aC pp 8 fp, cA aC ps 8 fs, cK aC pk 7 fk, cO k0 0 [], cO k1 1 [], cO k2 3 [], cO k3 5 [], cO k4 6 [], cO k5 10 [], cO k6 8 []] (va_pl L (plE aC g))) s.heap.size = A at hD ⊢
  have hA : ∀ q : Nat, s.heap.size ≤ q → A q := fun q h => by rw [← hAe]; exact Or.inr h
  obtain ⟨H, hHe⟩ : ∃ H : Heap, H = s.heap := ⟨_, rfl⟩
  have hS : va_S A s.heap H [] := by rw [hHe]; exact va_S.rf
  have hP : va_P (dC, dI) classes (wp [oX9 h1 po pp ps pa pe pb pv pk pu pw pq pt un fw, oX4 pv ek ef ew ep es (nI n) sy dn, cI aC ek 8 kf, cI aC ef 8 ff, cI aC es 5 stf, cA aC pp 8 fp, cA aC ps 8 fs, cK aC pk 7 fk, cO k0 0 [], cO k1 1 [], cO k2 3 [], cO k3 5 [], cO k4 6 [], cO k5 10 [], cO k6 8 []] (va_pl L (plE aC g))) H := by rw [hHe]; exact hP
  have hl := lv_entry ([Value.ref h1, Value.int (nI i)]) (n := 4) (Nat.le_of_ble_eq_true rfl)
  rw [lg_entry_eq]
  generalize (lg_sl ([Value.ref h1, Value.int (nI i)]) ++ List.replicate (4 - (lg_sl ([Value.ref h1, Value.int (nI i)])).length) Slot.unset).toArray = ls at hl ⊢
  have hl : lv_has ls 4 [(0, Value.ref h1), (1, Value.int (nI i))] := hl
  rw [← hHe]
  have hn8 := hev.1
  refine lv_iload_n hx hb dX9_askYounger_0 rfl (lv_at hl 1 rfl) ?_
  refine lv_iconst (v := 1) hx hb dX9_askYounger_1 (by decide) ?_
  refine lv_iadd hx hb dX9_askYounger_2 ?_
  refine lv_topi (fun x_1 e_1 => ?_)
  refine lv_istore_n (lv' := [(2, Value.int x_1), (0, Value.ref h1), (1, Value.int (nI i))]) hx hb dX9_askYounger_3 rfl hl (by decide) rfl (fun ls hl => ?_)
  have h9 : x_1 = nI (i + 1) := by rw [e_1, nI_1]
  subst h9
  have lp_4 : ∀ (fu : Nat) (j : Nat) (gc : Nat → Nat → Int32) (hfu : n - j < fu) (hj : i < j ∧ j ≤ n) (hg1 : ∀ q, i < q → q < j → gc (rp i) q = nI (pr (K q) (F q) (stf 2) (S q))) (hg2 : ∀ a, a ≠ rp i → gc a = g a) (H : Heap) (locs : List Loc) (ls : Array Slot), va_P (dC, dI) classes (wp [oX9 h1 po pp ps pa pe pb pv pk pu pw pq pt un fw, oX4 pv ek ef ew ep es (nI n) sy dn, cI aC ek 8 kf, cI aC ef 8 ff, cI aC es 5 stf, cA aC pp 8 fp, cA aC ps 8 fs, cK aC pk 7 fk, cO k0 0 [], cO k1 1 [], cO k2 3 [], cO k3 5 [], cO k4 6 [], cO k5 10 [], cO k6 8 []] (va_pl L (plE aC gc))) H → va_D A (wp [oX9 h1 po pp ps pa pe pb pv pk pu pw pq pt un fw, oX4 pv ek ef ew ep es (nI n) sy dn, cI aC ek 8 kf, cI aC ef 8 ff, cI aC es 5 stf, cA aC pp 8 fp, cA aC ps 8 fs, cK aC pk 7 fk, cO k0 0 [], cO k1 1 [], cO k2 3 [], cO k3 5 [], cO k4 6 [], cO k5 10 [], cO k6 8 []] (va_pl L (plE aC gc))) → va_S A s.heap H locs → lv_has ls 4 [(0, Value.ref h1), (1, Value.int (nI i)), (2, Value.int (nI j))] → W p l e (headSpec (wW yX9_askYounger cX9_askYounger 4 (none : Option FieldType)) ({ frames := 3, cells := 0, slots := 0, locals := 71 } : Room)).room s m ([Value.ref h1, Value.int (nI i)] : List Value).toArray below meth c H locs 0 0 (MQ below (va_Qv (fun (g2 : Nat → Nat → Int32) => (∀ q, i < q → q < n → g2 (rp i) q = nI (pr (K q) (F q) (stf 2) (S q))) ∧ ∀ a, a ≠ rp i → g2 a = g a) (fun (g2 : Nat → Nat → Int32) (t : State) => va_P (dC, dI) classes (wp [oX9 h1 po pp ps pa pe pb pv pk pu pw pq pt un fw, oX4 pv ek ef ew ep es (nI n) sy dn, cI aC ek 8 kf, cI aC ef 8 ff, cI aC es 5 stf, cA aC pp 8 fp, cA aC ps 8 fs, cK aC pk 7 fk, cO k0 0 [], cO k1 1 [], cO k2 3 [], cO k3 5 [], cO k4 6 [], cO k5 10 [], cO k6 8 []] (va_pl L (plE aC g2))) t.heap ∧ va_K (dC, dI) classes (TY aC) t ∧ va_D A (wp [oX9 h1 po pp ps pa pe pb pv pk pu pw pq pt un fw, oX4 pv ek ef ew ep es (nI n) sy dn, cI aC ek 8 kf, cI aC ef 8 ff, cI aC es 5 stf, cA aC pp 8 fp, cA aC ps 8 fs, cK aC pk 7 fk, cO k0 0 [], cO k1 1 [], cO k2 3 [], cO k3 5 [], cO k4 6 [], cO k5 10 [], cO k6 8 []] (va_pl L (plE aC g2)))) A) ([Value.ref h1, Value.int (nI i)] : List Value).toArray s 0 0 A) (F0 m 4 ls []) := by
    intro fu
    induction fu with
    | zero => intro j gc hfu; exact absurd hfu (Nat.not_lt_zero _)
    | succ fu ih_4 =>
      intro j gc hfu hj hg1 hg2 H locs ls hP hD hS hl
      refine lv_iload_n hx hb dX9_askYounger_4 rfl (lv_at hl 2 rfl) ?_
      refine lv_aload_n hx hb dX9_askYounger_5 rfl (lv_at hl 0 rfl) ?_
      refine va_get (D := (dC, dI)) (ci := 9) (v := Value.ref pv) (C := RX9) (T := TX9) (N := 14) hx hb hts inX9 hown hK hP 0 rfl rfl 6 (by decide) (hts _ (gw kw_162 rfl)) (fun _ h9 => h9) rfl dX9_askYounger_6 ?_
      refine va_get (D := (dC, dI)) (ci := 4) (v := Value.int (nI n)) (C := RX4) (T := TX4) (N := 8) hx hb hts inX4 hown hK hP 1 rfl rfl 5 (by decide) (hts _ (gw kw_47 rfl)) (fun _ h9 => h9) rfl dX9_askYounger_9 ?_
      refine lv_icmp_ge (tgt := 67) hx hb dX9_askYounger_12 (by decide) (fun c_2 => ?_) (fun c_2 => ?_)
      · have hjn : j = n := by
          rcases Nat.lt_or_ge j n with q | q
          · exact absurd c_2 (nI_ge q (by omega))
          · omega
        have hpd9 := pd_P (cx := [oX9 h1 po pp ps pa pe pb pv pk pu pw pq pt un fw, oX4 pv ek ef ew ep es (nI n) sy dn, cI aC ek 8 kf, cI aC ef 8 ff, cI aC es 5 stf, cA aC pp 8 fp, cA aC ps 8 fs, cK aC pk 7 fk, cO k0 0 [], cO k1 1 [], cO k2 3 [], cO k3 5 [], cO k4 6 [], cO k5 10 [], cO k6 8 []]) hP hD [0, 1, 2, 3, 4, 5, 6, 7, 8, 9, 10, 11, 12, 13, 14] (by decide) rfl
        have hP9 := hpd9.1
        have hD9 := hpd9.2
        refine W.widen (k := 0) (n := 0) (by omega) (by omega) ?_
        exact W.vret hx hb hr (fun t ht hW => ⟨⟨(gc), rfl, ⟨fun q h1 h2 => hg1 q h1 (by omega), hg2⟩, by rw [ht]; exact hP9, va_K.moved hW.alike hK, hD9⟩, hS.F ht⟩) hS.2.2 dX9_askYounger_67
      · have hlt : j < n := by
          rcases Nat.lt_or_ge j n with q | q
          · exact q
          · exact absurd (nI_le q (by omega)) c_2
        obtain ⟨hs1, hs2⟩ := hSj j hj.1 hlt
        obtain ⟨⟨hkf, hkle⟩, ⟨hff, hfle⟩, -⟩ := hev.2.2.2 j hlt
        refine lv_aload_n hx hb dX9_askYounger_15 rfl (lv_at hl 0 rfl) ?_
        refine va_get (D := (dC, dI)) (ci := 9) (v := Value.ref ps) (C := RX9) (T := TX9) (N := 14) hx hb hts inX9 hown hK hP 0 rfl rfl 2 (by decide) (hts _ (gw kw_154 rfl)) (fun _ h9 => h9) rfl dX9_askYounger_16 ?_
        refine lv_iload_n hx hb dX9_askYounger_19 rfl (lv_at hl 1 rfl) ?_
        refine lv_iconst (v := 1) hx hb dX9_askYounger_20 (by decide) ?_
        refine lv_iadd hx hb dX9_askYounger_21 ?_
        refine lv_topi (fun x_3 e_3 => ?_)
        have h9 : x_3 = nI (i + 1) := by rw [e_3, nI_1]
        subst h9
        have h_4 : vp_in (nI (i + 1)) 8 := by first | exact vp_in_nI (by omega) (by omega) | (unfold vp_in; decide) | (subst_vars; first | (unfold vp_in; decide) | exact vp_in_nI (by omega) (by omega))
        refine va_alda (r := rs (i + 1)) hx hb hK hP 6 rfl h_4 (by rw [nI_clamp (by omega)]; exact (hgr.1 (i + 1) (by omega)).2.2.1) dX9_askYounger_22 ?_
        refine lv_iload_n hx hb dX9_askYounger_23 rfl (lv_at hl 2 rfl) ?_
        have h_5 : vp_in (nI j) 8 := by first | exact vp_in_nI (by omega) (by omega) | (unfold vp_in; decide) | (subst_vars; first | (unfold vp_in; decide) | exact vp_in_nI (by omega) (by omega))
        refine pl_iald hx hb hK hP ((hgr.1 (i + 1) (by omega)).2.2.2) h_5 dX9_askYounger_24 ?_
        refine lv_topi (fun x_6 e_6 => ?_)
        have h9 : x_6 = iI (S j) := by rw [e_6, nI_clamp (by omega), hg2 _ (fun q => (hgr.2 i (i + 1) (by omega) (by omega)).2.2.2.2.2 q.symm)]; exact hs1
        subst h9
        refine lv_istore_n (lv' := [(3, Value.int (iI (S j))), (0, Value.ref h1), (1, Value.int (nI i)), (2, Value.int (nI j))]) hx hb dX9_askYounger_25 rfl hl (by decide) rfl (fun ls hl => ?_)
        refine lv_aload_n hx hb dX9_askYounger_26 rfl (lv_at hl 1 rfl) ?_
        refine va_get (D := (dC, dI)) (ci := 9) (v := Value.ref pp) (C := RX9) (T := TX9) (N := 14) hx hb hts inX9 hown hK hP 0 rfl rfl 1 (by decide) (hts _ (gw kw_152 rfl)) (fun _ h9 => h9) rfl dX9_askYounger_27 ?_
        refine lv_iload_n hx hb dX9_askYounger_30 rfl (lv_at hl 2 rfl) ?_
        have h_7 : vp_in (nI i) 8 := by first | exact vp_in_nI (by omega) (by omega) | (unfold vp_in; decide) | (subst_vars; first | (unfold vp_in; decide) | exact vp_in_nI (by omega) (by omega))
        refine va_alda (r := rp i) hx hb hK hP 5 rfl h_7 (by rw [nI_clamp (by omega)]; exact (hgr.1 i (by omega)).2.1.1) dX9_askYounger_31 ?_
        refine lv_iload_n hx hb dX9_askYounger_32 rfl (lv_at hl 3 rfl) ?_
        rcases le6 hkle with hkk | hkk | hkk | hkk | hkk | hkk | hkk
        · have hkv : kf j = nI 0 := by rw [hkf, hkk]
          refine lv_aload_n hx hb dX9_askYounger_33 rfl (lv_at hl 1 rfl) ?_
          refine lv_iload_n hx hb dX9_askYounger_34 rfl (lv_at hl 3 rfl) ?_
          have hpd9 := pdf_N (cx := [oX9 h1 po pp ps pa pe pb pv pk pu pw pq pt un fw, oX4 pv ek ef ew ep es (nI n) sy dn, cI aC ek 8 kf, cK aC pk 7 fk]) hP hD hS hA [0, 1, 2, 7] (by decide) rfl
          have hPc := hpd9.1
          have hDc := hpd9.2.1
          have hFc := hpd9.2.2
          clear hpd9
          refine va_callr (va_runV (As := [Value.int (nI j)]) (rest := [Value.int (nI j), Value.ref (rp i)]) ⟨hx, hb, hml, hown, hts⟩ (c_X9_kindOf l dC dI aC H.size h1 po pp ps pa pe pb pv pk pu pw pq pt un fw ek ef ew ep es n sy dn kf fk j 0 k0 (by omega) (hkv) (by omega) (hkd.1)) ⟨(callB_of 1 hts (gG kw_365) rfl rfl rfl (hts _ (gw kw_11 rfl)) (hts _ (gw kw_362 rfl)) hd_X9_kindOf ⟨Nat.le_of_ble_eq_true rfl, Nat.le_of_ble_eq_true rfl⟩), (hts _ (gw kw_364 rfl)), (hts _ (gw ks_8 rfl))⟩ ⟨fb_std, va_recv (q := (RX9, TX9, 14)) hK hPc (ci := 9) (q0 := 0) rfl rfl, pre_std hPc hK hDc hN⟩ rfl rfl hl.1 rfl (lv_room (Nat.le_of_ble_eq_true rfl)) dX9_askYounger_35 ⟨Nat.le_of_ble_eq_true rfl, Nat.le_of_ble_eq_true rfl⟩) hS (fun q _ h => hFc q h) hFc (fun u9 q_8 t9 H1 locs ht hvm hw_8 hB hz1 hk1 hS => ?_)
          obtain ⟨q_8_e, hP1, hK1, hD1⟩ := hB
          rw [ht] at hP1
          clear hK1
          try dsimp only at hw_8
          have hpd9 : PDx (dC, dI) classes A H1 (wp [cI aC ef 8 ff, cI aC es 5 stf, cA aC pp 8 fp, cA aC ps 8 fs, cO k0 0 [], cO k1 1 [], cO k2 3 [], cO k3 5 [], cO k4 6 [], cO k5 10 [], cO k6 8 [], oX9 h1 po pp ps pa pe pb pv pk pu pw pq pt un fw, oX4 pv ek ef ew ep es (nI n) sy dn, cI aC ek 8 kf, cK aC pk 7 fk] (va_pl L (plE aC gc))) := jn_Q (wr := [cI aC ef 8 ff, cI aC es 5 stf, cA aC pp 8 fp, cA aC ps 8 fs, cO k0 0 [], cO k1 1 [], cO k2 3 [], cO k3 5 [], cO k4 6 [], cO k5 10 [], cO k6 8 []]) hFc hk1 hP1 hD1 hP hD [0, 1, 2, 7] [3, 4, 5, 6, 8, 9, 10, 11, 12, 13, 14] rfl rfl (by decide) (by decide)
          have hP := hpd9.1
          have hD := hpd9.2
          clear hpd9
          generalize H1 = H at hP hS ⊢
          clear hPc hDc hFc hz1 hk1 hP1 hD1 ht hvm
          have h9 := q_8_e.symm
          subst h9
          refine lv_iload_n hx hb dX9_askYounger_38 rfl (lv_at hl 0 rfl) ?_
          refine lv_aload_n hx hb dX9_askYounger_39 rfl (lv_at hl 1 rfl) ?_
          refine va_get (D := (dC, dI)) (ci := 9) (v := Value.ref pv) (C := RX9) (T := TX9) (N := 14) hx hb hts inX9 hown hK hP 11 rfl rfl 6 (by decide) (hts _ (gw kw_162 rfl)) (fun _ h9 => h9) rfl dX9_askYounger_40 ?_
          refine va_get (D := (dC, dI)) (ci := 4) (v := Value.ref ef) (C := RX4) (T := TX4) (N := 8) hx hb hts inX4 hown hK hP 12 rfl rfl 1 (by decide) (hts _ (gw kw_36 rfl)) (fun _ h9 => h9) rfl dX9_askYounger_43 ?_
          refine lv_iload_n hx hb dX9_askYounger_46 rfl (lv_at hl 3 rfl) ?_
          have h_9 : vp_in (nI j) 8 := by first | exact vp_in_nI (by omega) (by omega) | (unfold vp_in; decide) | (subst_vars; first | (unfold vp_in; decide) | exact vp_in_nI (by omega) (by omega))
          refine va_iald hx hb hK hP 0 0 rfl rfl h_9 dX9_askYounger_47 ?_
          refine lv_topi (fun x_10 e_10 => ?_)
          have h9 : x_10 = nI (F j) := by rw [e_10, nI_clamp (by omega)]; exact hff
          subst h9
          refine lv_aload_n hx hb dX9_askYounger_48 rfl (lv_at hl 1 rfl) ?_
          refine va_get (D := (dC, dI)) (ci := 9) (v := Value.ref pv) (C := RX9) (T := TX9) (N := 14) hx hb hts inX9 hown hK hP 11 rfl rfl 6 (by decide) (hts _ (gw kw_162 rfl)) (fun _ h9 => h9) rfl dX9_askYounger_49 ?_
          refine va_get (D := (dC, dI)) (ci := 4) (v := Value.ref es) (C := RX4) (T := TX4) (N := 8) hx hb hts inX4 hown hK hP 12 rfl rfl 4 (by decide) (hts _ (gw kw_44 rfl)) (fun _ h9 => h9) rfl dX9_askYounger_52 ?_
          refine lv_iconst (v := 2) hx hb dX9_askYounger_55 (by decide) ?_
          have h_11 : vp_in 2 5 := by first | exact vp_in_nI (by omega) (by omega) | (unfold vp_in; decide) | (subst_vars; first | (unfold vp_in; decide) | exact vp_in_nI (by omega) (by omega))
          refine va_iald hx hb hK hP 1 0 rfl rfl h_11 dX9_askYounger_56 ?_
          refine lv_topi (fun x_12 e_12 => ?_)
          have h9 : x_12 = (stf 2) := by rw [e_12]; rfl
          subst h9
          have hpd9 := pdf_N (cx := []) hP hD hS hA [] (by decide) rfl
          have hPc := hpd9.1
          have hDc := hpd9.2.1
          have hFc := hpd9.2.2
          clear hpd9
          refine va_calli (va_runV (As := [Value.int (iI (S j)), Value.int (nI (F j)), Value.int (stf 2)]) (rest := [Value.int (nI j), Value.ref (rp i)]) ⟨hx, hb, hml, hown, hts⟩ (c_X0_ask l dC dI aC H.size k0 (S j) (F j) (stf 2) (hs2) (hfle)) ⟨(callB_of 3 hts (gG kw_392) rfl rfl rfl (hts _ (gw kw_4 rfl)) (hts _ (gw kw_366 rfl)) hd_X0_ask ⟨Nat.le_of_ble_eq_true rfl, Nat.le_of_ble_eq_true rfl⟩), (hts _ (gw kw_367 rfl)), (hts _ (gw kw_368 rfl))⟩ ⟨fb_std, va_recv (q := (RX0, TX0, 0)) hK hP (ci := 0) (q0 := 4) rfl rfl, pre_std hPc hK hDc hN⟩ rfl rfl hl.1 rfl (lv_room (Nat.le_of_ble_eq_true rfl)) dX9_askYounger_57 ⟨Nat.le_of_ble_eq_true rfl, Nat.le_of_ble_eq_true rfl⟩) hS (fun q _ h => hFc q h) hFc (fun x_13 u9 t9 H1 locs ht hvm hw_13 hB hz1 hk1 hS => ?_)
          obtain ⟨hP1, hK1, hD1⟩ := hB
          rw [ht] at hP1
          clear hK1
          try dsimp only at hw_13
          have hpd9 : PDx (dC, dI) classes A H1 (wp [cI aC ef 8 ff, cI aC es 5 stf, cA aC pp 8 fp, cA aC ps 8 fs, cO k0 0 [], cO k1 1 [], cO k2 3 [], cO k3 5 [], cO k4 6 [], cO k5 10 [], cO k6 8 [], oX9 h1 po pp ps pa pe pb pv pk pu pw pq pt un fw, oX4 pv ek ef ew ep es (nI n) sy dn, cI aC ek 8 kf, cK aC pk 7 fk] (va_pl L (plE aC gc))) := jn_Q (wr := [cI aC ef 8 ff, cI aC es 5 stf, cA aC pp 8 fp, cA aC ps 8 fs, cO k0 0 [], cO k1 1 [], cO k2 3 [], cO k3 5 [], cO k4 6 [], cO k5 10 [], cO k6 8 [], oX9 h1 po pp ps pa pe pb pv pk pu pw pq pt un fw, oX4 pv ek ef ew ep es (nI n) sy dn, cI aC ek 8 kf, cK aC pk 7 fk]) hFc hk1 hP1 hD1 hP hD [] [0, 1, 2, 3, 4, 5, 6, 7, 8, 9, 10, 11, 12, 13, 14] rfl rfl (by decide) (by decide)
          have hP := hpd9.1
          have hD := hpd9.2
          clear hpd9
          generalize H1 = H at hP hS ⊢
          clear hPc hDc hFc hz1 hk1 hP1 hD1 ht hvm
          have h9 : x_13 = nI (pr (K j) (F j) (stf 2) (S j)) := by rw [hw_13]; unfold pr; rw [hkk]; rfl
          subst h9
          have h_14 : vp_in (nI j) 8 := by first | exact vp_in_nI (by omega) (by omega) | (unfold vp_in; decide) | (subst_vars; first | (unfold vp_in; decide) | exact vp_in_nI (by omega) (by omega))
          refine pl_iast hx hb hK hP hD hS ((hgr.1 i (by omega)).2.1.2) h_14 dX9_askYounger_60 (fun H locs hP hD hS => ?_)
          obtain ⟨g_15, e_g_15⟩ : ∃ y : Nat → Nat → Int32, y = va_up gc (rp i) (upd (gc (rp i)) (nI j : Int32).toNatClampNeg (nI (pr (K j) (F j) (stf 2) (S j)))) := ⟨_, rfl⟩
          have hpd9 : PDx (dC, dI) classes A H (wp [cI aC ef 8 ff, cI aC es 5 stf, cA aC pp 8 fp, cA aC ps 8 fs, cO k0 0 [], cO k1 1 [], cO k2 3 [], cO k3 5 [], cO k4 6 [], cO k5 10 [], cO k6 8 [], oX9 h1 po pp ps pa pe pb pv pk pu pw pq pt un fw, oX4 pv ek ef ew ep es (nI n) sy dn, cI aC ek 8 kf, cK aC pk 7 fk] (va_pl L (plE aC g_15))) := by rw [e_g_15]; exact ⟨hP, hD⟩
          have hP := hpd9.1
          have hD := hpd9.2
          clear hpd9
          have hb1 : ∀ q, i < q → q < j + 1 → g_15 (rp i) q = nI (pr (K q) (F q) (stf 2) (S q)) := fun q h1 h2 => by
            rw [e_g_15, nI_clamp (by omega)]
            rw [show ∀ (u : Nat → Int32), va_up gc (rp i) u (rp i) = u from fun u => if_pos rfl]
            by_cases e : q = j
            · rw [e, pk_us]
            · rw [pk_un e]; exact hg1 q h1 (by omega)
          have hb2 : ∀ a, a ≠ rp i → g_15 a = g a := fun a h => by
            rw [e_g_15, show ∀ (u : Nat → Int32), va_up gc (rp i) u a = gc a from fun u => if_neg h]
            exact hg2 a h
          obtain ⟨x_16, e_16⟩ : ∃ y : Int32, y = (nI j) + 1 := ⟨_, rfl⟩
          refine lv_iinc (v := x_16) (lv' := [(2, Value.int x_16), (3, Value.int (iI (S j))), (0, Value.ref h1), (1, Value.int (nI i))]) hx hb dX9_askYounger_61 hl (k := 3) rfl (by rw [e_16]; rfl) (by decide) rfl (fun ls hl => ?_)
          have h9 : x_16 = nI (j + 1) := by rw [e_16, nI_1]
          subst h9
          refine lv_goto (tgt := 4) hx hb dX9_askYounger_64 (by decide) ?_
          exact ih_4 (j + 1) g_15 (ms_lt hlt hfu) (by omega) (hb1) (hb2) _ _ _ (plP hP [11, 12, 13, 0, 1, 2, 3, 14, 4, 5, 6, 7, 8, 9, 10] rfl) (plD hD [11, 12, 13, 0, 1, 2, 3, 14, 4, 5, 6, 7, 8, 9, 10] (by decide) rfl) hS (lv_sub hl [2, 3, 0] rfl)
        · have hkv : kf j = nI 1 := by rw [hkf, hkk]
          refine lv_aload_n hx hb dX9_askYounger_33 rfl (lv_at hl 1 rfl) ?_
          refine lv_iload_n hx hb dX9_askYounger_34 rfl (lv_at hl 3 rfl) ?_
          have hpd9 := pdf_N (cx := [oX9 h1 po pp ps pa pe pb pv pk pu pw pq pt un fw, oX4 pv ek ef ew ep es (nI n) sy dn, cI aC ek 8 kf, cK aC pk 7 fk]) hP hD hS hA [0, 1, 2, 7] (by decide) rfl
          have hPc := hpd9.1
          have hDc := hpd9.2.1
          have hFc := hpd9.2.2
          clear hpd9
          refine va_callr (va_runV (As := [Value.int (nI j)]) (rest := [Value.int (nI j), Value.ref (rp i)]) ⟨hx, hb, hml, hown, hts⟩ (c_X9_kindOf l dC dI aC H.size h1 po pp ps pa pe pb pv pk pu pw pq pt un fw ek ef ew ep es n sy dn kf fk j 1 k1 (by omega) (hkv) (by omega) (hkd.2.1)) ⟨(callB_of 1 hts (gG kw_365) rfl rfl rfl (hts _ (gw kw_11 rfl)) (hts _ (gw kw_362 rfl)) hd_X9_kindOf ⟨Nat.le_of_ble_eq_true rfl, Nat.le_of_ble_eq_true rfl⟩), (hts _ (gw kw_364 rfl)), (hts _ (gw ks_8 rfl))⟩ ⟨fb_std, va_recv (q := (RX9, TX9, 14)) hK hPc (ci := 9) (q0 := 0) rfl rfl, pre_std hPc hK hDc hN⟩ rfl rfl hl.1 rfl (lv_room (Nat.le_of_ble_eq_true rfl)) dX9_askYounger_35 ⟨Nat.le_of_ble_eq_true rfl, Nat.le_of_ble_eq_true rfl⟩) hS (fun q _ h => hFc q h) hFc (fun u9 q_17 t9 H1 locs ht hvm hw_17 hB hz1 hk1 hS => ?_)
          obtain ⟨q_17_e, hP1, hK1, hD1⟩ := hB
          rw [ht] at hP1
          clear hK1
          try dsimp only at hw_17
          have hpd9 : PDx (dC, dI) classes A H1 (wp [cI aC ef 8 ff, cI aC es 5 stf, cA aC pp 8 fp, cA aC ps 8 fs, cO k0 0 [], cO k1 1 [], cO k2 3 [], cO k3 5 [], cO k4 6 [], cO k5 10 [], cO k6 8 [], oX9 h1 po pp ps pa pe pb pv pk pu pw pq pt un fw, oX4 pv ek ef ew ep es (nI n) sy dn, cI aC ek 8 kf, cK aC pk 7 fk] (va_pl L (plE aC gc))) := jn_Q (wr := [cI aC ef 8 ff, cI aC es 5 stf, cA aC pp 8 fp, cA aC ps 8 fs, cO k0 0 [], cO k1 1 [], cO k2 3 [], cO k3 5 [], cO k4 6 [], cO k5 10 [], cO k6 8 []]) hFc hk1 hP1 hD1 hP hD [0, 1, 2, 7] [3, 4, 5, 6, 8, 9, 10, 11, 12, 13, 14] rfl rfl (by decide) (by decide)
          have hP := hpd9.1
          have hD := hpd9.2
          clear hpd9
          generalize H1 = H at hP hS ⊢
          clear hPc hDc hFc hz1 hk1 hP1 hD1 ht hvm
          have h9 := q_17_e.symm
          subst h9
          refine lv_iload_n hx hb dX9_askYounger_38 rfl (lv_at hl 0 rfl) ?_
          refine lv_aload_n hx hb dX9_askYounger_39 rfl (lv_at hl 1 rfl) ?_
          refine va_get (D := (dC, dI)) (ci := 9) (v := Value.ref pv) (C := RX9) (T := TX9) (N := 14) hx hb hts inX9 hown hK hP 11 rfl rfl 6 (by decide) (hts _ (gw kw_162 rfl)) (fun _ h9 => h9) rfl dX9_askYounger_40 ?_
          refine va_get (D := (dC, dI)) (ci := 4) (v := Value.ref ef) (C := RX4) (T := TX4) (N := 8) hx hb hts inX4 hown hK hP 12 rfl rfl 1 (by decide) (hts _ (gw kw_36 rfl)) (fun _ h9 => h9) rfl dX9_askYounger_43 ?_
          refine lv_iload_n hx hb dX9_askYounger_46 rfl (lv_at hl 3 rfl) ?_
          have h_18 : vp_in (nI j) 8 := by first | exact vp_in_nI (by omega) (by omega) | (unfold vp_in; decide) | (subst_vars; first | (unfold vp_in; decide) | exact vp_in_nI (by omega) (by omega))
          refine va_iald hx hb hK hP 0 0 rfl rfl h_18 dX9_askYounger_47 ?_
          refine lv_topi (fun x_19 e_19 => ?_)
          have h9 : x_19 = nI (F j) := by rw [e_19, nI_clamp (by omega)]; exact hff
          subst h9
          refine lv_aload_n hx hb dX9_askYounger_48 rfl (lv_at hl 1 rfl) ?_
          refine va_get (D := (dC, dI)) (ci := 9) (v := Value.ref pv) (C := RX9) (T := TX9) (N := 14) hx hb hts inX9 hown hK hP 11 rfl rfl 6 (by decide) (hts _ (gw kw_162 rfl)) (fun _ h9 => h9) rfl dX9_askYounger_49 ?_
          refine va_get (D := (dC, dI)) (ci := 4) (v := Value.ref es) (C := RX4) (T := TX4) (N := 8) hx hb hts inX4 hown hK hP 12 rfl rfl 4 (by decide) (hts _ (gw kw_44 rfl)) (fun _ h9 => h9) rfl dX9_askYounger_52 ?_
          refine lv_iconst (v := 2) hx hb dX9_askYounger_55 (by decide) ?_
          have h_20 : vp_in 2 5 := by first | exact vp_in_nI (by omega) (by omega) | (unfold vp_in; decide) | (subst_vars; first | (unfold vp_in; decide) | exact vp_in_nI (by omega) (by omega))
          refine va_iald hx hb hK hP 1 0 rfl rfl h_20 dX9_askYounger_56 ?_
          refine lv_topi (fun x_21 e_21 => ?_)
          have h9 : x_21 = (stf 2) := by rw [e_21]; rfl
          subst h9
          have hpd9 := pdf_N (cx := []) hP hD hS hA [] (by decide) rfl
          have hPc := hpd9.1
          have hDc := hpd9.2.1
          have hFc := hpd9.2.2
          clear hpd9
          refine va_calli (va_runU (As := [Value.int (iI (S j)), Value.int (nI (F j)), Value.int (stf 2)]) (rest := [Value.int (nI j), Value.ref (rp i)]) ⟨hx, hb, hml, hown, hts⟩ (c_X1_ask l dC dI aC H.size k1 (S j) (F j) (stf 2) (hs2) (hfle)) (va_cwO (owner := "EldestSays$Clever") 3 hts (gcons (gw kw_366 rfl) (gcons (gw kw_369 rfl) (gcons (gw kw_367 rfl) (gcons (gw kw_370 rfl) (gcons (gw kw_371 rfl) (gcons (gw kw_5 rfl) (gG kw_372))))))) rfl rfl rfl (gw kw_392 rfl) (by decide +kernel) ⟨Nat.le_of_ble_eq_true rfl, Nat.le_of_ble_eq_true rfl⟩) ⟨fb_std, va_recv (q := (RX1, TX1, 0)) hK hP (ci := 1) (q0 := 5) rfl rfl, pre_std hPc hK hDc hN⟩ rfl rfl hl.1 rfl (lv_room (Nat.le_of_ble_eq_true rfl)) dX9_askYounger_57 ⟨Nat.le_of_ble_eq_true rfl, Nat.le_of_ble_eq_true rfl⟩) hS (fun q _ h => hFc q h) hFc (fun x_22 u9 t9 H1 locs ht hvm hw_22 hB hz1 hk1 hS => ?_)
          obtain ⟨hP1, hK1, hD1⟩ := hB
          rw [ht] at hP1
          clear hK1
          try dsimp only at hw_22
          have hpd9 : PDx (dC, dI) classes A H1 (wp [cI aC ef 8 ff, cI aC es 5 stf, cA aC pp 8 fp, cA aC ps 8 fs, cO k0 0 [], cO k1 1 [], cO k2 3 [], cO k3 5 [], cO k4 6 [], cO k5 10 [], cO k6 8 [], oX9 h1 po pp ps pa pe pb pv pk pu pw pq pt un fw, oX4 pv ek ef ew ep es (nI n) sy dn, cI aC ek 8 kf, cK aC pk 7 fk] (va_pl L (plE aC gc))) := jn_Q (wr := [cI aC ef 8 ff, cI aC es 5 stf, cA aC pp 8 fp, cA aC ps 8 fs, cO k0 0 [], cO k1 1 [], cO k2 3 [], cO k3 5 [], cO k4 6 [], cO k5 10 [], cO k6 8 [], oX9 h1 po pp ps pa pe pb pv pk pu pw pq pt un fw, oX4 pv ek ef ew ep es (nI n) sy dn, cI aC ek 8 kf, cK aC pk 7 fk]) hFc hk1 hP1 hD1 hP hD [] [0, 1, 2, 3, 4, 5, 6, 7, 8, 9, 10, 11, 12, 13, 14] rfl rfl (by decide) (by decide)
          have hP := hpd9.1
          have hD := hpd9.2
          clear hpd9
          generalize H1 = H at hP hS ⊢
          clear hPc hDc hFc hz1 hk1 hP1 hD1 ht hvm
          have h9 : x_22 = nI (pr (K j) (F j) (stf 2) (S j)) := by rw [hw_22]; unfold pr; rw [hkk]; rfl
          subst h9
          have h_23 : vp_in (nI j) 8 := by first | exact vp_in_nI (by omega) (by omega) | (unfold vp_in; decide) | (subst_vars; first | (unfold vp_in; decide) | exact vp_in_nI (by omega) (by omega))
          refine pl_iast hx hb hK hP hD hS ((hgr.1 i (by omega)).2.1.2) h_23 dX9_askYounger_60 (fun H locs hP hD hS => ?_)
          obtain ⟨g_24, e_g_24⟩ : ∃ y : Nat → Nat → Int32, y = va_up gc (rp i) (upd (gc (rp i)) (nI j : Int32).toNatClampNeg (nI (pr (K j) (F j) (stf 2) (S j)))) := ⟨_, rfl⟩
          have hpd9 : PDx (dC, dI) classes A H (wp [cI aC ef 8 ff, cI aC es 5 stf, cA aC pp 8 fp, cA aC ps 8 fs, cO k0 0 [], cO k1 1 [], cO k2 3 [], cO k3 5 [], cO k4 6 [], cO k5 10 [], cO k6 8 [], oX9 h1 po pp ps pa pe pb pv pk pu pw pq pt un fw, oX4 pv ek ef ew ep es (nI n) sy dn, cI aC ek 8 kf, cK aC pk 7 fk] (va_pl L (plE aC g_24))) := by rw [e_g_24]; exact ⟨hP, hD⟩
          have hP := hpd9.1
          have hD := hpd9.2
          clear hpd9
          have hb1 : ∀ q, i < q → q < j + 1 → g_24 (rp i) q = nI (pr (K q) (F q) (stf 2) (S q)) := fun q h1 h2 => by
            rw [e_g_24, nI_clamp (by omega)]
            rw [show ∀ (u : Nat → Int32), va_up gc (rp i) u (rp i) = u from fun u => if_pos rfl]
            by_cases e : q = j
            · rw [e, pk_us]
            · rw [pk_un e]; exact hg1 q h1 (by omega)
          have hb2 : ∀ a, a ≠ rp i → g_24 a = g a := fun a h => by
            rw [e_g_24, show ∀ (u : Nat → Int32), va_up gc (rp i) u a = gc a from fun u => if_neg h]
            exact hg2 a h
          obtain ⟨x_25, e_25⟩ : ∃ y : Int32, y = (nI j) + 1 := ⟨_, rfl⟩
          refine lv_iinc (v := x_25) (lv' := [(2, Value.int x_25), (3, Value.int (iI (S j))), (0, Value.ref h1), (1, Value.int (nI i))]) hx hb dX9_askYounger_61 hl (k := 3) rfl (by rw [e_25]; rfl) (by decide) rfl (fun ls hl => ?_)
          have h9 : x_25 = nI (j + 1) := by rw [e_25, nI_1]
          subst h9
          refine lv_goto (tgt := 4) hx hb dX9_askYounger_64 (by decide) ?_
          exact ih_4 (j + 1) g_24 (ms_lt hlt hfu) (by omega) (hb1) (hb2) _ _ _ (plP hP [11, 12, 13, 0, 1, 2, 3, 14, 4, 5, 6, 7, 8, 9, 10] rfl) (plD hD [11, 12, 13, 0, 1, 2, 3, 14, 4, 5, 6, 7, 8, 9, 10] (by decide) rfl) hS (lv_sub hl [2, 3, 0] rfl)
        · have hkv : kf j = nI 2 := by rw [hkf, hkk]
          refine lv_aload_n hx hb dX9_askYounger_33 rfl (lv_at hl 1 rfl) ?_
          refine lv_iload_n hx hb dX9_askYounger_34 rfl (lv_at hl 3 rfl) ?_
          have hpd9 := pdf_N (cx := [oX9 h1 po pp ps pa pe pb pv pk pu pw pq pt un fw, oX4 pv ek ef ew ep es (nI n) sy dn, cI aC ek 8 kf, cK aC pk 7 fk]) hP hD hS hA [0, 1, 2, 7] (by decide) rfl
          have hPc := hpd9.1
          have hDc := hpd9.2.1
          have hFc := hpd9.2.2
          clear hpd9
          refine va_callr (va_runV (As := [Value.int (nI j)]) (rest := [Value.int (nI j), Value.ref (rp i)]) ⟨hx, hb, hml, hown, hts⟩ (c_X9_kindOf l dC dI aC H.size h1 po pp ps pa pe pb pv pk pu pw pq pt un fw ek ef ew ep es n sy dn kf fk j 2 k2 (by omega) (hkv) (by omega) (hkd.2.2.1)) ⟨(callB_of 1 hts (gG kw_365) rfl rfl rfl (hts _ (gw kw_11 rfl)) (hts _ (gw kw_362 rfl)) hd_X9_kindOf ⟨Nat.le_of_ble_eq_true rfl, Nat.le_of_ble_eq_true rfl⟩), (hts _ (gw kw_364 rfl)), (hts _ (gw ks_8 rfl))⟩ ⟨fb_std, va_recv (q := (RX9, TX9, 14)) hK hPc (ci := 9) (q0 := 0) rfl rfl, pre_std hPc hK hDc hN⟩ rfl rfl hl.1 rfl (lv_room (Nat.le_of_ble_eq_true rfl)) dX9_askYounger_35 ⟨Nat.le_of_ble_eq_true rfl, Nat.le_of_ble_eq_true rfl⟩) hS (fun q _ h => hFc q h) hFc (fun u9 q_26 t9 H1 locs ht hvm hw_26 hB hz1 hk1 hS => ?_)
          obtain ⟨q_26_e, hP1, hK1, hD1⟩ := hB
          rw [ht] at hP1
          clear hK1
          try dsimp only at hw_26
          have hpd9 : PDx (dC, dI) classes A H1 (wp [cI aC ef 8 ff, cI aC es 5 stf, cA aC pp 8 fp, cA aC ps 8 fs, cO k0 0 [], cO k1 1 [], cO k2 3 [], cO k3 5 [], cO k4 6 [], cO k5 10 [], cO k6 8 [], oX9 h1 po pp ps pa pe pb pv pk pu pw pq pt un fw, oX4 pv ek ef ew ep es (nI n) sy dn, cI aC ek 8 kf, cK aC pk 7 fk] (va_pl L (plE aC gc))) := jn_Q (wr := [cI aC ef 8 ff, cI aC es 5 stf, cA aC pp 8 fp, cA aC ps 8 fs, cO k0 0 [], cO k1 1 [], cO k2 3 [], cO k3 5 [], cO k4 6 [], cO k5 10 [], cO k6 8 []]) hFc hk1 hP1 hD1 hP hD [0, 1, 2, 7] [3, 4, 5, 6, 8, 9, 10, 11, 12, 13, 14] rfl rfl (by decide) (by decide)
          have hP := hpd9.1
          have hD := hpd9.2
          clear hpd9
          generalize H1 = H at hP hS ⊢
          clear hPc hDc hFc hz1 hk1 hP1 hD1 ht hvm
          have h9 := q_26_e.symm
          subst h9
          refine lv_iload_n hx hb dX9_askYounger_38 rfl (lv_at hl 0 rfl) ?_
          refine lv_aload_n hx hb dX9_askYounger_39 rfl (lv_at hl 1 rfl) ?_
          refine va_get (D := (dC, dI)) (ci := 9) (v := Value.ref pv) (C := RX9) (T := TX9) (N := 14) hx hb hts inX9 hown hK hP 11 rfl rfl 6 (by decide) (hts _ (gw kw_162 rfl)) (fun _ h9 => h9) rfl dX9_askYounger_40 ?_
          refine va_get (D := (dC, dI)) (ci := 4) (v := Value.ref ef) (C := RX4) (T := TX4) (N := 8) hx hb hts inX4 hown hK hP 12 rfl rfl 1 (by decide) (hts _ (gw kw_36 rfl)) (fun _ h9 => h9) rfl dX9_askYounger_43 ?_
          refine lv_iload_n hx hb dX9_askYounger_46 rfl (lv_at hl 3 rfl) ?_
          have h_27 : vp_in (nI j) 8 := by first | exact vp_in_nI (by omega) (by omega) | (unfold vp_in; decide) | (subst_vars; first | (unfold vp_in; decide) | exact vp_in_nI (by omega) (by omega))
          refine va_iald hx hb hK hP 0 0 rfl rfl h_27 dX9_askYounger_47 ?_
          refine lv_topi (fun x_28 e_28 => ?_)
          have h9 : x_28 = nI (F j) := by rw [e_28, nI_clamp (by omega)]; exact hff
          subst h9
          refine lv_aload_n hx hb dX9_askYounger_48 rfl (lv_at hl 1 rfl) ?_
          refine va_get (D := (dC, dI)) (ci := 9) (v := Value.ref pv) (C := RX9) (T := TX9) (N := 14) hx hb hts inX9 hown hK hP 11 rfl rfl 6 (by decide) (hts _ (gw kw_162 rfl)) (fun _ h9 => h9) rfl dX9_askYounger_49 ?_
          refine va_get (D := (dC, dI)) (ci := 4) (v := Value.ref es) (C := RX4) (T := TX4) (N := 8) hx hb hts inX4 hown hK hP 12 rfl rfl 4 (by decide) (hts _ (gw kw_44 rfl)) (fun _ h9 => h9) rfl dX9_askYounger_52 ?_
          refine lv_iconst (v := 2) hx hb dX9_askYounger_55 (by decide) ?_
          have h_29 : vp_in 2 5 := by first | exact vp_in_nI (by omega) (by omega) | (unfold vp_in; decide) | (subst_vars; first | (unfold vp_in; decide) | exact vp_in_nI (by omega) (by omega))
          refine va_iald hx hb hK hP 1 0 rfl rfl h_29 dX9_askYounger_56 ?_
          refine lv_topi (fun x_30 e_30 => ?_)
          have h9 : x_30 = (stf 2) := by rw [e_30]; rfl
          subst h9
          have hpd9 := pdf_N (cx := [cO k2 3 []]) hP hD hS hA [6] (by decide) rfl
          have hPc := hpd9.1
          have hDc := hpd9.2.1
          have hFc := hpd9.2.2
          clear hpd9
          refine va_calli (va_runU (As := [Value.int (iI (S j)), Value.int (nI (F j)), Value.int (stf 2)]) (rest := [Value.int (nI j), Value.ref (rp i)]) ⟨hx, hb, hml, hown, hts⟩ (c_X3_ask l dC dI aC H.size k2 (S j) (F j) (stf 2) (hs2) (hfle)) (va_cwO (owner := "EldestSays$Clever") 3 hts (gcons (gw kw_366 rfl) (gcons (gw kw_369 rfl) (gcons (gw kw_367 rfl) (gcons (gw kw_376 rfl) (gcons (gw kw_377 rfl) (gcons (gw kw_6 rfl) (gG kw_378))))))) rfl rfl rfl (gw kw_392 rfl) (by decide +kernel) ⟨Nat.le_of_ble_eq_true rfl, Nat.le_of_ble_eq_true rfl⟩) ⟨fb_std, va_recv (q := (RX3, TX3, 0)) hK hPc (ci := 3) (q0 := 0) rfl rfl, pre_std hPc hK hDc hN⟩ rfl rfl hl.1 rfl (lv_room (Nat.le_of_ble_eq_true rfl)) dX9_askYounger_57 ⟨Nat.le_of_ble_eq_true rfl, Nat.le_of_ble_eq_true rfl⟩) hS (fun q _ h => hFc q h) hFc (fun x_31 u9 t9 H1 locs ht hvm hw_31 hB hz1 hk1 hS => ?_)
          obtain ⟨hP1, hK1, hD1⟩ := hB
          rw [ht] at hP1
          clear hK1
          try dsimp only at hw_31
          have hpd9 : PDx (dC, dI) classes A H1 (wp [cI aC ef 8 ff, cI aC es 5 stf, cA aC pp 8 fp, cA aC ps 8 fs, cO k0 0 [], cO k1 1 [], cO k3 5 [], cO k4 6 [], cO k5 10 [], cO k6 8 [], oX9 h1 po pp ps pa pe pb pv pk pu pw pq pt un fw, oX4 pv ek ef ew ep es (nI n) sy dn, cI aC ek 8 kf, cK aC pk 7 fk, cO k2 3 []] (va_pl L (plE aC gc))) := jn_Q (wr := [cI aC ef 8 ff, cI aC es 5 stf, cA aC pp 8 fp, cA aC ps 8 fs, cO k0 0 [], cO k1 1 [], cO k3 5 [], cO k4 6 [], cO k5 10 [], cO k6 8 [], oX9 h1 po pp ps pa pe pb pv pk pu pw pq pt un fw, oX4 pv ek ef ew ep es (nI n) sy dn, cI aC ek 8 kf, cK aC pk 7 fk]) hFc hk1 hP1 hD1 hP hD [6] [0, 1, 2, 3, 4, 5, 7, 8, 9, 10, 11, 12, 13, 14] rfl rfl (by decide) (by decide)
          have hP := hpd9.1
          have hD := hpd9.2
          clear hpd9
          generalize H1 = H at hP hS ⊢
          clear hPc hDc hFc hz1 hk1 hP1 hD1 ht hvm
          have h9 : x_31 = nI (pr (K j) (F j) (stf 2) (S j)) := by rw [hw_31]; unfold pr; rw [hkk]; rfl
          subst h9
          have h_32 : vp_in (nI j) 8 := by first | exact vp_in_nI (by omega) (by omega) | (unfold vp_in; decide) | (subst_vars; first | (unfold vp_in; decide) | exact vp_in_nI (by omega) (by omega))
          refine pl_iast hx hb hK hP hD hS ((hgr.1 i (by omega)).2.1.2) h_32 dX9_askYounger_60 (fun H locs hP hD hS => ?_)
          obtain ⟨g_33, e_g_33⟩ : ∃ y : Nat → Nat → Int32, y = va_up gc (rp i) (upd (gc (rp i)) (nI j : Int32).toNatClampNeg (nI (pr (K j) (F j) (stf 2) (S j)))) := ⟨_, rfl⟩
          have hpd9 : PDx (dC, dI) classes A H (wp [cI aC ef 8 ff, cI aC es 5 stf, cA aC pp 8 fp, cA aC ps 8 fs, cO k0 0 [], cO k1 1 [], cO k3 5 [], cO k4 6 [], cO k5 10 [], cO k6 8 [], oX9 h1 po pp ps pa pe pb pv pk pu pw pq pt un fw, oX4 pv ek ef ew ep es (nI n) sy dn, cI aC ek 8 kf, cK aC pk 7 fk, cO k2 3 []] (va_pl L (plE aC g_33))) := by rw [e_g_33]; exact ⟨hP, hD⟩
          have hP := hpd9.1
          have hD := hpd9.2
          clear hpd9
          have hb1 : ∀ q, i < q → q < j + 1 → g_33 (rp i) q = nI (pr (K q) (F q) (stf 2) (S q)) := fun q h1 h2 => by
            rw [e_g_33, nI_clamp (by omega)]
            rw [show ∀ (u : Nat → Int32), va_up gc (rp i) u (rp i) = u from fun u => if_pos rfl]
            by_cases e : q = j
            · rw [e, pk_us]
            · rw [pk_un e]; exact hg1 q h1 (by omega)
          have hb2 : ∀ a, a ≠ rp i → g_33 a = g a := fun a h => by
            rw [e_g_33, show ∀ (u : Nat → Int32), va_up gc (rp i) u a = gc a from fun u => if_neg h]
            exact hg2 a h
          obtain ⟨x_34, e_34⟩ : ∃ y : Int32, y = (nI j) + 1 := ⟨_, rfl⟩
          refine lv_iinc (v := x_34) (lv' := [(2, Value.int x_34), (3, Value.int (iI (S j))), (0, Value.ref h1), (1, Value.int (nI i))]) hx hb dX9_askYounger_61 hl (k := 3) rfl (by rw [e_34]; rfl) (by decide) rfl (fun ls hl => ?_)
          have h9 : x_34 = nI (j + 1) := by rw [e_34, nI_1]
          subst h9
          refine lv_goto (tgt := 4) hx hb dX9_askYounger_64 (by decide) ?_
          exact ih_4 (j + 1) g_33 (ms_lt hlt hfu) (by omega) (hb1) (hb2) _ _ _ (plP hP [10, 11, 12, 0, 1, 2, 3, 13, 4, 5, 14, 6, 7, 8, 9] rfl) (plD hD [10, 11, 12, 0, 1, 2, 3, 13, 4, 5, 14, 6, 7, 8, 9] (by decide) rfl) hS (lv_sub hl [2, 3, 0] rfl)
        · have hkv : kf j = nI 3 := by rw [hkf, hkk]
          refine lv_aload_n hx hb dX9_askYounger_33 rfl (lv_at hl 1 rfl) ?_
          refine lv_iload_n hx hb dX9_askYounger_34 rfl (lv_at hl 3 rfl) ?_
          have hpd9 := pdf_N (cx := [oX9 h1 po pp ps pa pe pb pv pk pu pw pq pt un fw, oX4 pv ek ef ew ep es (nI n) sy dn, cI aC ek 8 kf, cK aC pk 7 fk]) hP hD hS hA [0, 1, 2, 7] (by decide) rfl
          have hPc := hpd9.1
          have hDc := hpd9.2.1
          have hFc := hpd9.2.2
          clear hpd9
          refine va_callr (va_runV (As := [Value.int (nI j)]) (rest := [Value.int (nI j), Value.ref (rp i)]) ⟨hx, hb, hml, hown, hts⟩ (c_X9_kindOf l dC dI aC H.size h1 po pp ps pa pe pb pv pk pu pw pq pt un fw ek ef ew ep es n sy dn kf fk j 3 k3 (by omega) (hkv) (by omega) (hkd.2.2.2.1)) ⟨(callB_of 1 hts (gG kw_365) rfl rfl rfl (hts _ (gw kw_11 rfl)) (hts _ (gw kw_362 rfl)) hd_X9_kindOf ⟨Nat.le_of_ble_eq_true rfl, Nat.le_of_ble_eq_true rfl⟩), (hts _ (gw kw_364 rfl)), (hts _ (gw ks_8 rfl))⟩ ⟨fb_std, va_recv (q := (RX9, TX9, 14)) hK hPc (ci := 9) (q0 := 0) rfl rfl, pre_std hPc hK hDc hN⟩ rfl rfl hl.1 rfl (lv_room (Nat.le_of_ble_eq_true rfl)) dX9_askYounger_35 ⟨Nat.le_of_ble_eq_true rfl, Nat.le_of_ble_eq_true rfl⟩) hS (fun q _ h => hFc q h) hFc (fun u9 q_35 t9 H1 locs ht hvm hw_35 hB hz1 hk1 hS => ?_)
          obtain ⟨q_35_e, hP1, hK1, hD1⟩ := hB
          rw [ht] at hP1
          clear hK1
          try dsimp only at hw_35
          have hpd9 : PDx (dC, dI) classes A H1 (wp [cI aC ef 8 ff, cI aC es 5 stf, cA aC pp 8 fp, cA aC ps 8 fs, cO k0 0 [], cO k1 1 [], cO k2 3 [], cO k3 5 [], cO k4 6 [], cO k5 10 [], cO k6 8 [], oX9 h1 po pp ps pa pe pb pv pk pu pw pq pt un fw, oX4 pv ek ef ew ep es (nI n) sy dn, cI aC ek 8 kf, cK aC pk 7 fk] (va_pl L (plE aC gc))) := jn_Q (wr := [cI aC ef 8 ff, cI aC es 5 stf, cA aC pp 8 fp, cA aC ps 8 fs, cO k0 0 [], cO k1 1 [], cO k2 3 [], cO k3 5 [], cO k4 6 [], cO k5 10 [], cO k6 8 []]) hFc hk1 hP1 hD1 hP hD [0, 1, 2, 7] [3, 4, 5, 6, 8, 9, 10, 11, 12, 13, 14] rfl rfl (by decide) (by decide)
          have hP := hpd9.1
          have hD := hpd9.2
          clear hpd9
          generalize H1 = H at hP hS ⊢
          clear hPc hDc hFc hz1 hk1 hP1 hD1 ht hvm
          have h9 := q_35_e.symm
          subst h9
          refine lv_iload_n hx hb dX9_askYounger_38 rfl (lv_at hl 0 rfl) ?_
          refine lv_aload_n hx hb dX9_askYounger_39 rfl (lv_at hl 1 rfl) ?_
          refine va_get (D := (dC, dI)) (ci := 9) (v := Value.ref pv) (C := RX9) (T := TX9) (N := 14) hx hb hts inX9 hown hK hP 11 rfl rfl 6 (by decide) (hts _ (gw kw_162 rfl)) (fun _ h9 => h9) rfl dX9_askYounger_40 ?_
          refine va_get (D := (dC, dI)) (ci := 4) (v := Value.ref ef) (C := RX4) (T := TX4) (N := 8) hx hb hts inX4 hown hK hP 12 rfl rfl 1 (by decide) (hts _ (gw kw_36 rfl)) (fun _ h9 => h9) rfl dX9_askYounger_43 ?_
          refine lv_iload_n hx hb dX9_askYounger_46 rfl (lv_at hl 3 rfl) ?_
          have h_36 : vp_in (nI j) 8 := by first | exact vp_in_nI (by omega) (by omega) | (unfold vp_in; decide) | (subst_vars; first | (unfold vp_in; decide) | exact vp_in_nI (by omega) (by omega))
          refine va_iald hx hb hK hP 0 0 rfl rfl h_36 dX9_askYounger_47 ?_
          refine lv_topi (fun x_37 e_37 => ?_)
          have h9 : x_37 = nI (F j) := by rw [e_37, nI_clamp (by omega)]; exact hff
          subst h9
          refine lv_aload_n hx hb dX9_askYounger_48 rfl (lv_at hl 1 rfl) ?_
          refine va_get (D := (dC, dI)) (ci := 9) (v := Value.ref pv) (C := RX9) (T := TX9) (N := 14) hx hb hts inX9 hown hK hP 11 rfl rfl 6 (by decide) (hts _ (gw kw_162 rfl)) (fun _ h9 => h9) rfl dX9_askYounger_49 ?_
          refine va_get (D := (dC, dI)) (ci := 4) (v := Value.ref es) (C := RX4) (T := TX4) (N := 8) hx hb hts inX4 hown hK hP 12 rfl rfl 4 (by decide) (hts _ (gw kw_44 rfl)) (fun _ h9 => h9) rfl dX9_askYounger_52 ?_
          refine lv_iconst (v := 2) hx hb dX9_askYounger_55 (by decide) ?_
          have h_38 : vp_in 2 5 := by first | exact vp_in_nI (by omega) (by omega) | (unfold vp_in; decide) | (subst_vars; first | (unfold vp_in; decide) | exact vp_in_nI (by omega) (by omega))
          refine va_iald hx hb hK hP 1 0 rfl rfl h_38 dX9_askYounger_56 ?_
          refine lv_topi (fun x_39 e_39 => ?_)
          have h9 : x_39 = (stf 2) := by rw [e_39]; rfl
          subst h9
          have hpd9 := pdf_N (cx := []) hP hD hS hA [] (by decide) rfl
          have hPc := hpd9.1
          have hDc := hpd9.2.1
          have hFc := hpd9.2.2
          clear hpd9
          refine va_calli (va_runU (As := [Value.int (iI (S j)), Value.int (nI (F j)), Value.int (stf 2)]) (rest := [Value.int (nI j), Value.ref (rp i)]) ⟨hx, hb, hml, hown, hts⟩ (c_X1_ask l dC dI aC H.size k3 (S j) (F j) (stf 2) (hs2) (hfle)) (va_cwO (owner := "EldestSays$Clever") 3 hts (gcons (gw kw_366 rfl) (gcons (gw kw_369 rfl) (gcons (gw kw_367 rfl) (gcons (gw kw_380 rfl) (gcons (gw kw_371 rfl) (gcons (gw kw_5 rfl) (gG kw_372))))))) rfl rfl rfl (gw kw_392 rfl) (by decide +kernel) ⟨Nat.le_of_ble_eq_true rfl, Nat.le_of_ble_eq_true rfl⟩) ⟨fb_std, va_recv (q := (RX5, TX5, 0)) hK hP (ci := 5) (q0 := 7) rfl rfl, pre_std hPc hK hDc hN⟩ rfl rfl hl.1 rfl (lv_room (Nat.le_of_ble_eq_true rfl)) dX9_askYounger_57 ⟨Nat.le_of_ble_eq_true rfl, Nat.le_of_ble_eq_true rfl⟩) hS (fun q _ h => hFc q h) hFc (fun x_40 u9 t9 H1 locs ht hvm hw_40 hB hz1 hk1 hS => ?_)
          obtain ⟨hP1, hK1, hD1⟩ := hB
          rw [ht] at hP1
          clear hK1
          try dsimp only at hw_40
          have hpd9 : PDx (dC, dI) classes A H1 (wp [cI aC ef 8 ff, cI aC es 5 stf, cA aC pp 8 fp, cA aC ps 8 fs, cO k0 0 [], cO k1 1 [], cO k2 3 [], cO k3 5 [], cO k4 6 [], cO k5 10 [], cO k6 8 [], oX9 h1 po pp ps pa pe pb pv pk pu pw pq pt un fw, oX4 pv ek ef ew ep es (nI n) sy dn, cI aC ek 8 kf, cK aC pk 7 fk] (va_pl L (plE aC gc))) := jn_Q (wr := [cI aC ef 8 ff, cI aC es 5 stf, cA aC pp 8 fp, cA aC ps 8 fs, cO k0 0 [], cO k1 1 [], cO k2 3 [], cO k3 5 [], cO k4 6 [], cO k5 10 [], cO k6 8 [], oX9 h1 po pp ps pa pe pb pv pk pu pw pq pt un fw, oX4 pv ek ef ew ep es (nI n) sy dn, cI aC ek 8 kf, cK aC pk 7 fk]) hFc hk1 hP1 hD1 hP hD [] [0, 1, 2, 3, 4, 5, 6, 7, 8, 9, 10, 11, 12, 13, 14] rfl rfl (by decide) (by decide)
          have hP := hpd9.1
          have hD := hpd9.2
          clear hpd9
          generalize H1 = H at hP hS ⊢
          clear hPc hDc hFc hz1 hk1 hP1 hD1 ht hvm
          have h9 : x_40 = nI (pr (K j) (F j) (stf 2) (S j)) := by rw [hw_40]; unfold pr; rw [hkk]; rfl
          subst h9
          have h_41 : vp_in (nI j) 8 := by first | exact vp_in_nI (by omega) (by omega) | (unfold vp_in; decide) | (subst_vars; first | (unfold vp_in; decide) | exact vp_in_nI (by omega) (by omega))
          refine pl_iast hx hb hK hP hD hS ((hgr.1 i (by omega)).2.1.2) h_41 dX9_askYounger_60 (fun H locs hP hD hS => ?_)
          obtain ⟨g_42, e_g_42⟩ : ∃ y : Nat → Nat → Int32, y = va_up gc (rp i) (upd (gc (rp i)) (nI j : Int32).toNatClampNeg (nI (pr (K j) (F j) (stf 2) (S j)))) := ⟨_, rfl⟩
          have hpd9 : PDx (dC, dI) classes A H (wp [cI aC ef 8 ff, cI aC es 5 stf, cA aC pp 8 fp, cA aC ps 8 fs, cO k0 0 [], cO k1 1 [], cO k2 3 [], cO k3 5 [], cO k4 6 [], cO k5 10 [], cO k6 8 [], oX9 h1 po pp ps pa pe pb pv pk pu pw pq pt un fw, oX4 pv ek ef ew ep es (nI n) sy dn, cI aC ek 8 kf, cK aC pk 7 fk] (va_pl L (plE aC g_42))) := by rw [e_g_42]; exact ⟨hP, hD⟩
          have hP := hpd9.1
          have hD := hpd9.2
          clear hpd9
          have hb1 : ∀ q, i < q → q < j + 1 → g_42 (rp i) q = nI (pr (K q) (F q) (stf 2) (S q)) := fun q h1 h2 => by
            rw [e_g_42, nI_clamp (by omega)]
            rw [show ∀ (u : Nat → Int32), va_up gc (rp i) u (rp i) = u from fun u => if_pos rfl]
            by_cases e : q = j
            · rw [e, pk_us]
            · rw [pk_un e]; exact hg1 q h1 (by omega)
          have hb2 : ∀ a, a ≠ rp i → g_42 a = g a := fun a h => by
            rw [e_g_42, show ∀ (u : Nat → Int32), va_up gc (rp i) u a = gc a from fun u => if_neg h]
            exact hg2 a h
          obtain ⟨x_43, e_43⟩ : ∃ y : Int32, y = (nI j) + 1 := ⟨_, rfl⟩
          refine lv_iinc (v := x_43) (lv' := [(2, Value.int x_43), (3, Value.int (iI (S j))), (0, Value.ref h1), (1, Value.int (nI i))]) hx hb dX9_askYounger_61 hl (k := 3) rfl (by rw [e_43]; rfl) (by decide) rfl (fun ls hl => ?_)
          have h9 : x_43 = nI (j + 1) := by rw [e_43, nI_1]
          subst h9
          refine lv_goto (tgt := 4) hx hb dX9_askYounger_64 (by decide) ?_
          exact ih_4 (j + 1) g_42 (ms_lt hlt hfu) (by omega) (hb1) (hb2) _ _ _ (plP hP [11, 12, 13, 0, 1, 2, 3, 14, 4, 5, 6, 7, 8, 9, 10] rfl) (plD hD [11, 12, 13, 0, 1, 2, 3, 14, 4, 5, 6, 7, 8, 9, 10] (by decide) rfl) hS (lv_sub hl [2, 3, 0] rfl)
        · have hkv : kf j = nI 4 := by rw [hkf, hkk]
          refine lv_aload_n hx hb dX9_askYounger_33 rfl (lv_at hl 1 rfl) ?_
          refine lv_iload_n hx hb dX9_askYounger_34 rfl (lv_at hl 3 rfl) ?_
          have hpd9 := pdf_N (cx := [oX9 h1 po pp ps pa pe pb pv pk pu pw pq pt un fw, oX4 pv ek ef ew ep es (nI n) sy dn, cI aC ek 8 kf, cK aC pk 7 fk]) hP hD hS hA [0, 1, 2, 7] (by decide) rfl
          have hPc := hpd9.1
          have hDc := hpd9.2.1
          have hFc := hpd9.2.2
          clear hpd9
          refine va_callr (va_runV (As := [Value.int (nI j)]) (rest := [Value.int (nI j), Value.ref (rp i)]) ⟨hx, hb, hml, hown, hts⟩ (c_X9_kindOf l dC dI aC H.size h1 po pp ps pa pe pb pv pk pu pw pq pt un fw ek ef ew ep es n sy dn kf fk j 4 k4 (by omega) (hkv) (by omega) (hkd.2.2.2.2.1)) ⟨(callB_of 1 hts (gG kw_365) rfl rfl rfl (hts _ (gw kw_11 rfl)) (hts _ (gw kw_362 rfl)) hd_X9_kindOf ⟨Nat.le_of_ble_eq_true rfl, Nat.le_of_ble_eq_true rfl⟩), (hts _ (gw kw_364 rfl)), (hts _ (gw ks_8 rfl))⟩ ⟨fb_std, va_recv (q := (RX9, TX9, 14)) hK hPc (ci := 9) (q0 := 0) rfl rfl, pre_std hPc hK hDc hN⟩ rfl rfl hl.1 rfl (lv_room (Nat.le_of_ble_eq_true rfl)) dX9_askYounger_35 ⟨Nat.le_of_ble_eq_true rfl, Nat.le_of_ble_eq_true rfl⟩) hS (fun q _ h => hFc q h) hFc (fun u9 q_44 t9 H1 locs ht hvm hw_44 hB hz1 hk1 hS => ?_)
          obtain ⟨q_44_e, hP1, hK1, hD1⟩ := hB
          rw [ht] at hP1
          clear hK1
          try dsimp only at hw_44
          have hpd9 : PDx (dC, dI) classes A H1 (wp [cI aC ef 8 ff, cI aC es 5 stf, cA aC pp 8 fp, cA aC ps 8 fs, cO k0 0 [], cO k1 1 [], cO k2 3 [], cO k3 5 [], cO k4 6 [], cO k5 10 [], cO k6 8 [], oX9 h1 po pp ps pa pe pb pv pk pu pw pq pt un fw, oX4 pv ek ef ew ep es (nI n) sy dn, cI aC ek 8 kf, cK aC pk 7 fk] (va_pl L (plE aC gc))) := jn_Q (wr := [cI aC ef 8 ff, cI aC es 5 stf, cA aC pp 8 fp, cA aC ps 8 fs, cO k0 0 [], cO k1 1 [], cO k2 3 [], cO k3 5 [], cO k4 6 [], cO k5 10 [], cO k6 8 []]) hFc hk1 hP1 hD1 hP hD [0, 1, 2, 7] [3, 4, 5, 6, 8, 9, 10, 11, 12, 13, 14] rfl rfl (by decide) (by decide)
          have hP := hpd9.1
          have hD := hpd9.2
          clear hpd9
          generalize H1 = H at hP hS ⊢
          clear hPc hDc hFc hz1 hk1 hP1 hD1 ht hvm
          have h9 := q_44_e.symm
          subst h9
          refine lv_iload_n hx hb dX9_askYounger_38 rfl (lv_at hl 0 rfl) ?_
          refine lv_aload_n hx hb dX9_askYounger_39 rfl (lv_at hl 1 rfl) ?_
          refine va_get (D := (dC, dI)) (ci := 9) (v := Value.ref pv) (C := RX9) (T := TX9) (N := 14) hx hb hts inX9 hown hK hP 11 rfl rfl 6 (by decide) (hts _ (gw kw_162 rfl)) (fun _ h9 => h9) rfl dX9_askYounger_40 ?_
          refine va_get (D := (dC, dI)) (ci := 4) (v := Value.ref ef) (C := RX4) (T := TX4) (N := 8) hx hb hts inX4 hown hK hP 12 rfl rfl 1 (by decide) (hts _ (gw kw_36 rfl)) (fun _ h9 => h9) rfl dX9_askYounger_43 ?_
          refine lv_iload_n hx hb dX9_askYounger_46 rfl (lv_at hl 3 rfl) ?_
          have h_45 : vp_in (nI j) 8 := by first | exact vp_in_nI (by omega) (by omega) | (unfold vp_in; decide) | (subst_vars; first | (unfold vp_in; decide) | exact vp_in_nI (by omega) (by omega))
          refine va_iald hx hb hK hP 0 0 rfl rfl h_45 dX9_askYounger_47 ?_
          refine lv_topi (fun x_46 e_46 => ?_)
          have h9 : x_46 = nI (F j) := by rw [e_46, nI_clamp (by omega)]; exact hff
          subst h9
          refine lv_aload_n hx hb dX9_askYounger_48 rfl (lv_at hl 1 rfl) ?_
          refine va_get (D := (dC, dI)) (ci := 9) (v := Value.ref pv) (C := RX9) (T := TX9) (N := 14) hx hb hts inX9 hown hK hP 11 rfl rfl 6 (by decide) (hts _ (gw kw_162 rfl)) (fun _ h9 => h9) rfl dX9_askYounger_49 ?_
          refine va_get (D := (dC, dI)) (ci := 4) (v := Value.ref es) (C := RX4) (T := TX4) (N := 8) hx hb hts inX4 hown hK hP 12 rfl rfl 4 (by decide) (hts _ (gw kw_44 rfl)) (fun _ h9 => h9) rfl dX9_askYounger_52 ?_
          refine lv_iconst (v := 2) hx hb dX9_askYounger_55 (by decide) ?_
          have h_47 : vp_in 2 5 := by first | exact vp_in_nI (by omega) (by omega) | (unfold vp_in; decide) | (subst_vars; first | (unfold vp_in; decide) | exact vp_in_nI (by omega) (by omega))
          refine va_iald hx hb hK hP 1 0 rfl rfl h_47 dX9_askYounger_56 ?_
          refine lv_topi (fun x_48 e_48 => ?_)
          have h9 : x_48 = (stf 2) := by rw [e_48]; rfl
          subst h9
          have hpd9 := pdf_N (cx := []) hP hD hS hA [] (by decide) rfl
          have hPc := hpd9.1
          have hDc := hpd9.2.1
          have hFc := hpd9.2.2
          clear hpd9
          refine va_calli (va_runU (As := [Value.int (iI (S j)), Value.int (nI (F j)), Value.int (stf 2)]) (rest := [Value.int (nI j), Value.ref (rp i)]) ⟨hx, hb, hml, hown, hts⟩ (c_X6_ask l dC dI aC H.size k4 (S j) (F j) (stf 2) (hs2) (hfle)) (va_cwO (owner := "EldestSays$Clever") 3 hts (gcons (gw kw_366 rfl) (gcons (gw kw_369 rfl) (gcons (gw kw_367 rfl) (gcons (gw kw_381 rfl) (gcons (gw kw_382 rfl) (gcons (gw kw_8 rfl) (gG kw_383))))))) rfl rfl rfl (gw kw_392 rfl) (by decide +kernel) ⟨Nat.le_of_ble_eq_true rfl, Nat.le_of_ble_eq_true rfl⟩) ⟨fb_std, va_recv (q := (RX6, TX6, 0)) hK hP (ci := 6) (q0 := 8) rfl rfl, pre_std hPc hK hDc hN⟩ rfl rfl hl.1 rfl (lv_room (Nat.le_of_ble_eq_true rfl)) dX9_askYounger_57 ⟨Nat.le_of_ble_eq_true rfl, Nat.le_of_ble_eq_true rfl⟩) hS (fun q _ h => hFc q h) hFc (fun x_49 u9 t9 H1 locs ht hvm hw_49 hB hz1 hk1 hS => ?_)
          obtain ⟨hP1, hK1, hD1⟩ := hB
          rw [ht] at hP1
          clear hK1
          try dsimp only at hw_49
          have hpd9 : PDx (dC, dI) classes A H1 (wp [cI aC ef 8 ff, cI aC es 5 stf, cA aC pp 8 fp, cA aC ps 8 fs, cO k0 0 [], cO k1 1 [], cO k2 3 [], cO k3 5 [], cO k4 6 [], cO k5 10 [], cO k6 8 [], oX9 h1 po pp ps pa pe pb pv pk pu pw pq pt un fw, oX4 pv ek ef ew ep es (nI n) sy dn, cI aC ek 8 kf, cK aC pk 7 fk] (va_pl L (plE aC gc))) := jn_Q (wr := [cI aC ef 8 ff, cI aC es 5 stf, cA aC pp 8 fp, cA aC ps 8 fs, cO k0 0 [], cO k1 1 [], cO k2 3 [], cO k3 5 [], cO k4 6 [], cO k5 10 [], cO k6 8 [], oX9 h1 po pp ps pa pe pb pv pk pu pw pq pt un fw, oX4 pv ek ef ew ep es (nI n) sy dn, cI aC ek 8 kf, cK aC pk 7 fk]) hFc hk1 hP1 hD1 hP hD [] [0, 1, 2, 3, 4, 5, 6, 7, 8, 9, 10, 11, 12, 13, 14] rfl rfl (by decide) (by decide)
          have hP := hpd9.1
          have hD := hpd9.2
          clear hpd9
          generalize H1 = H at hP hS ⊢
          clear hPc hDc hFc hz1 hk1 hP1 hD1 ht hvm
          have h9 : x_49 = nI (pr (K j) (F j) (stf 2) (S j)) := by rw [hw_49]; unfold pr; rw [hkk]; rfl
          subst h9
          have h_50 : vp_in (nI j) 8 := by first | exact vp_in_nI (by omega) (by omega) | (unfold vp_in; decide) | (subst_vars; first | (unfold vp_in; decide) | exact vp_in_nI (by omega) (by omega))
          refine pl_iast hx hb hK hP hD hS ((hgr.1 i (by omega)).2.1.2) h_50 dX9_askYounger_60 (fun H locs hP hD hS => ?_)
          obtain ⟨g_51, e_g_51⟩ : ∃ y : Nat → Nat → Int32, y = va_up gc (rp i) (upd (gc (rp i)) (nI j : Int32).toNatClampNeg (nI (pr (K j) (F j) (stf 2) (S j)))) := ⟨_, rfl⟩
          have hpd9 : PDx (dC, dI) classes A H (wp [cI aC ef 8 ff, cI aC es 5 stf, cA aC pp 8 fp, cA aC ps 8 fs, cO k0 0 [], cO k1 1 [], cO k2 3 [], cO k3 5 [], cO k4 6 [], cO k5 10 [], cO k6 8 [], oX9 h1 po pp ps pa pe pb pv pk pu pw pq pt un fw, oX4 pv ek ef ew ep es (nI n) sy dn, cI aC ek 8 kf, cK aC pk 7 fk] (va_pl L (plE aC g_51))) := by rw [e_g_51]; exact ⟨hP, hD⟩
          have hP := hpd9.1
          have hD := hpd9.2
          clear hpd9
          have hb1 : ∀ q, i < q → q < j + 1 → g_51 (rp i) q = nI (pr (K q) (F q) (stf 2) (S q)) := fun q h1 h2 => by
            rw [e_g_51, nI_clamp (by omega)]
            rw [show ∀ (u : Nat → Int32), va_up gc (rp i) u (rp i) = u from fun u => if_pos rfl]
            by_cases e : q = j
            · rw [e, pk_us]
            · rw [pk_un e]; exact hg1 q h1 (by omega)
          have hb2 : ∀ a, a ≠ rp i → g_51 a = g a := fun a h => by
            rw [e_g_51, show ∀ (u : Nat → Int32), va_up gc (rp i) u a = gc a from fun u => if_neg h]
            exact hg2 a h
          obtain ⟨x_52, e_52⟩ : ∃ y : Int32, y = (nI j) + 1 := ⟨_, rfl⟩
          refine lv_iinc (v := x_52) (lv' := [(2, Value.int x_52), (3, Value.int (iI (S j))), (0, Value.ref h1), (1, Value.int (nI i))]) hx hb dX9_askYounger_61 hl (k := 3) rfl (by rw [e_52]; rfl) (by decide) rfl (fun ls hl => ?_)
          have h9 : x_52 = nI (j + 1) := by rw [e_52, nI_1]
          subst h9
          refine lv_goto (tgt := 4) hx hb dX9_askYounger_64 (by decide) ?_
          exact ih_4 (j + 1) g_51 (ms_lt hlt hfu) (by omega) (hb1) (hb2) _ _ _ (plP hP [11, 12, 13, 0, 1, 2, 3, 14, 4, 5, 6, 7, 8, 9, 10] rfl) (plD hD [11, 12, 13, 0, 1, 2, 3, 14, 4, 5, 6, 7, 8, 9, 10] (by decide) rfl) hS (lv_sub hl [2, 3, 0] rfl)
        · have hkv : kf j = nI 5 := by rw [hkf, hkk]
          refine lv_aload_n hx hb dX9_askYounger_33 rfl (lv_at hl 1 rfl) ?_
          refine lv_iload_n hx hb dX9_askYounger_34 rfl (lv_at hl 3 rfl) ?_
          have hpd9 := pdf_N (cx := [oX9 h1 po pp ps pa pe pb pv pk pu pw pq pt un fw, oX4 pv ek ef ew ep es (nI n) sy dn, cI aC ek 8 kf, cK aC pk 7 fk]) hP hD hS hA [0, 1, 2, 7] (by decide) rfl
          have hPc := hpd9.1
          have hDc := hpd9.2.1
          have hFc := hpd9.2.2
          clear hpd9
          refine va_callr (va_runV (As := [Value.int (nI j)]) (rest := [Value.int (nI j), Value.ref (rp i)]) ⟨hx, hb, hml, hown, hts⟩ (c_X9_kindOf l dC dI aC H.size h1 po pp ps pa pe pb pv pk pu pw pq pt un fw ek ef ew ep es n sy dn kf fk j 5 k5 (by omega) (hkv) (by omega) (hkd.2.2.2.2.2.1)) ⟨(callB_of 1 hts (gG kw_365) rfl rfl rfl (hts _ (gw kw_11 rfl)) (hts _ (gw kw_362 rfl)) hd_X9_kindOf ⟨Nat.le_of_ble_eq_true rfl, Nat.le_of_ble_eq_true rfl⟩), (hts _ (gw kw_364 rfl)), (hts _ (gw ks_8 rfl))⟩ ⟨fb_std, va_recv (q := (RX9, TX9, 14)) hK hPc (ci := 9) (q0 := 0) rfl rfl, pre_std hPc hK hDc hN⟩ rfl rfl hl.1 rfl (lv_room (Nat.le_of_ble_eq_true rfl)) dX9_askYounger_35 ⟨Nat.le_of_ble_eq_true rfl, Nat.le_of_ble_eq_true rfl⟩) hS (fun q _ h => hFc q h) hFc (fun u9 q_53 t9 H1 locs ht hvm hw_53 hB hz1 hk1 hS => ?_)
          obtain ⟨q_53_e, hP1, hK1, hD1⟩ := hB
          rw [ht] at hP1
          clear hK1
          try dsimp only at hw_53
          have hpd9 : PDx (dC, dI) classes A H1 (wp [cI aC ef 8 ff, cI aC es 5 stf, cA aC pp 8 fp, cA aC ps 8 fs, cO k0 0 [], cO k1 1 [], cO k2 3 [], cO k3 5 [], cO k4 6 [], cO k5 10 [], cO k6 8 [], oX9 h1 po pp ps pa pe pb pv pk pu pw pq pt un fw, oX4 pv ek ef ew ep es (nI n) sy dn, cI aC ek 8 kf, cK aC pk 7 fk] (va_pl L (plE aC gc))) := jn_Q (wr := [cI aC ef 8 ff, cI aC es 5 stf, cA aC pp 8 fp, cA aC ps 8 fs, cO k0 0 [], cO k1 1 [], cO k2 3 [], cO k3 5 [], cO k4 6 [], cO k5 10 [], cO k6 8 []]) hFc hk1 hP1 hD1 hP hD [0, 1, 2, 7] [3, 4, 5, 6, 8, 9, 10, 11, 12, 13, 14] rfl rfl (by decide) (by decide)
          have hP := hpd9.1
          have hD := hpd9.2
          clear hpd9
          generalize H1 = H at hP hS ⊢
          clear hPc hDc hFc hz1 hk1 hP1 hD1 ht hvm
          have h9 := q_53_e.symm
          subst h9
          refine lv_iload_n hx hb dX9_askYounger_38 rfl (lv_at hl 0 rfl) ?_
          refine lv_aload_n hx hb dX9_askYounger_39 rfl (lv_at hl 1 rfl) ?_
          refine va_get (D := (dC, dI)) (ci := 9) (v := Value.ref pv) (C := RX9) (T := TX9) (N := 14) hx hb hts inX9 hown hK hP 11 rfl rfl 6 (by decide) (hts _ (gw kw_162 rfl)) (fun _ h9 => h9) rfl dX9_askYounger_40 ?_
          refine va_get (D := (dC, dI)) (ci := 4) (v := Value.ref ef) (C := RX4) (T := TX4) (N := 8) hx hb hts inX4 hown hK hP 12 rfl rfl 1 (by decide) (hts _ (gw kw_36 rfl)) (fun _ h9 => h9) rfl dX9_askYounger_43 ?_
          refine lv_iload_n hx hb dX9_askYounger_46 rfl (lv_at hl 3 rfl) ?_
          have h_54 : vp_in (nI j) 8 := by first | exact vp_in_nI (by omega) (by omega) | (unfold vp_in; decide) | (subst_vars; first | (unfold vp_in; decide) | exact vp_in_nI (by omega) (by omega))
          refine va_iald hx hb hK hP 0 0 rfl rfl h_54 dX9_askYounger_47 ?_
          refine lv_topi (fun x_55 e_55 => ?_)
          have h9 : x_55 = nI (F j) := by rw [e_55, nI_clamp (by omega)]; exact hff
          subst h9
          refine lv_aload_n hx hb dX9_askYounger_48 rfl (lv_at hl 1 rfl) ?_
          refine va_get (D := (dC, dI)) (ci := 9) (v := Value.ref pv) (C := RX9) (T := TX9) (N := 14) hx hb hts inX9 hown hK hP 11 rfl rfl 6 (by decide) (hts _ (gw kw_162 rfl)) (fun _ h9 => h9) rfl dX9_askYounger_49 ?_
          refine va_get (D := (dC, dI)) (ci := 4) (v := Value.ref es) (C := RX4) (T := TX4) (N := 8) hx hb hts inX4 hown hK hP 12 rfl rfl 4 (by decide) (hts _ (gw kw_44 rfl)) (fun _ h9 => h9) rfl dX9_askYounger_52 ?_
          refine lv_iconst (v := 2) hx hb dX9_askYounger_55 (by decide) ?_
          have h_56 : vp_in 2 5 := by first | exact vp_in_nI (by omega) (by omega) | (unfold vp_in; decide) | (subst_vars; first | (unfold vp_in; decide) | exact vp_in_nI (by omega) (by omega))
          refine va_iald hx hb hK hP 1 0 rfl rfl h_56 dX9_askYounger_56 ?_
          refine lv_topi (fun x_57 e_57 => ?_)
          have h9 : x_57 = (stf 2) := by rw [e_57]; rfl
          subst h9
          have hpd9 := pdf_N (cx := [cO k5 10 []]) hP hD hS hA [9] (by decide) rfl
          have hPc := hpd9.1
          have hDc := hpd9.2.1
          have hFc := hpd9.2.2
          clear hpd9
          refine va_calli (va_runU (As := [Value.int (iI (S j)), Value.int (nI (F j)), Value.int (stf 2)]) (rest := [Value.int (nI j), Value.ref (rp i)]) ⟨hx, hb, hml, hown, hts⟩ (c_X10_ask l dC dI aC H.size k5 (S j) (F j) (stf 2) (hs2) (hfle)) (va_cwO (owner := "EldestSays$Clever") 3 hts (gcons (gw kw_366 rfl) (gcons (gw kw_369 rfl) (gcons (gw kw_367 rfl) (gcons (gw kw_388 rfl) (gcons (gw kw_389 rfl) (gcons (gw kw_9 rfl) (gG kw_390))))))) rfl rfl rfl (gw kw_392 rfl) (by decide +kernel) ⟨Nat.le_of_ble_eq_true rfl, Nat.le_of_ble_eq_true rfl⟩) ⟨fb_std, va_recv (q := (RX10, TX10, 0)) hK hPc (ci := 10) (q0 := 0) rfl rfl, pre_std hPc hK hDc hN⟩ rfl rfl hl.1 rfl (lv_room (Nat.le_of_ble_eq_true rfl)) dX9_askYounger_57 ⟨Nat.le_of_ble_eq_true rfl, Nat.le_of_ble_eq_true rfl⟩) hS (fun q _ h => hFc q h) hFc (fun x_58 u9 t9 H1 locs ht hvm hw_58 hB hz1 hk1 hS => ?_)
          obtain ⟨hP1, hK1, hD1⟩ := hB
          rw [ht] at hP1
          clear hK1
          try dsimp only at hw_58
          have hpd9 : PDx (dC, dI) classes A H1 (wp [cI aC ef 8 ff, cI aC es 5 stf, cA aC pp 8 fp, cA aC ps 8 fs, cO k0 0 [], cO k1 1 [], cO k2 3 [], cO k3 5 [], cO k4 6 [], cO k6 8 [], oX9 h1 po pp ps pa pe pb pv pk pu pw pq pt un fw, oX4 pv ek ef ew ep es (nI n) sy dn, cI aC ek 8 kf, cK aC pk 7 fk, cO k5 10 []] (va_pl L (plE aC gc))) := jn_Q (wr := [cI aC ef 8 ff, cI aC es 5 stf, cA aC pp 8 fp, cA aC ps 8 fs, cO k0 0 [], cO k1 1 [], cO k2 3 [], cO k3 5 [], cO k4 6 [], cO k6 8 [], oX9 h1 po pp ps pa pe pb pv pk pu pw pq pt un fw, oX4 pv ek ef ew ep es (nI n) sy dn, cI aC ek 8 kf, cK aC pk 7 fk]) hFc hk1 hP1 hD1 hP hD [9] [0, 1, 2, 3, 4, 5, 6, 7, 8, 10, 11, 12, 13, 14] rfl rfl (by decide) (by decide)
          have hP := hpd9.1
          have hD := hpd9.2
          clear hpd9
          generalize H1 = H at hP hS ⊢
          clear hPc hDc hFc hz1 hk1 hP1 hD1 ht hvm
          have h9 : x_58 = nI (pr (K j) (F j) (stf 2) (S j)) := by rw [hw_58]; unfold pr; rw [hkk]; rfl
          subst h9
          have h_59 : vp_in (nI j) 8 := by first | exact vp_in_nI (by omega) (by omega) | (unfold vp_in; decide) | (subst_vars; first | (unfold vp_in; decide) | exact vp_in_nI (by omega) (by omega))
          refine pl_iast hx hb hK hP hD hS ((hgr.1 i (by omega)).2.1.2) h_59 dX9_askYounger_60 (fun H locs hP hD hS => ?_)
          obtain ⟨g_60, e_g_60⟩ : ∃ y : Nat → Nat → Int32, y = va_up gc (rp i) (upd (gc (rp i)) (nI j : Int32).toNatClampNeg (nI (pr (K j) (F j) (stf 2) (S j)))) := ⟨_, rfl⟩
          have hpd9 : PDx (dC, dI) classes A H (wp [cI aC ef 8 ff, cI aC es 5 stf, cA aC pp 8 fp, cA aC ps 8 fs, cO k0 0 [], cO k1 1 [], cO k2 3 [], cO k3 5 [], cO k4 6 [], cO k6 8 [], oX9 h1 po pp ps pa pe pb pv pk pu pw pq pt un fw, oX4 pv ek ef ew ep es (nI n) sy dn, cI aC ek 8 kf, cK aC pk 7 fk, cO k5 10 []] (va_pl L (plE aC g_60))) := by rw [e_g_60]; exact ⟨hP, hD⟩
          have hP := hpd9.1
          have hD := hpd9.2
          clear hpd9
          have hb1 : ∀ q, i < q → q < j + 1 → g_60 (rp i) q = nI (pr (K q) (F q) (stf 2) (S q)) := fun q h1 h2 => by
            rw [e_g_60, nI_clamp (by omega)]
            rw [show ∀ (u : Nat → Int32), va_up gc (rp i) u (rp i) = u from fun u => if_pos rfl]
            by_cases e : q = j
            · rw [e, pk_us]
            · rw [pk_un e]; exact hg1 q h1 (by omega)
          have hb2 : ∀ a, a ≠ rp i → g_60 a = g a := fun a h => by
            rw [e_g_60, show ∀ (u : Nat → Int32), va_up gc (rp i) u a = gc a from fun u => if_neg h]
            exact hg2 a h
          obtain ⟨x_61, e_61⟩ : ∃ y : Int32, y = (nI j) + 1 := ⟨_, rfl⟩
          refine lv_iinc (v := x_61) (lv' := [(2, Value.int x_61), (3, Value.int (iI (S j))), (0, Value.ref h1), (1, Value.int (nI i))]) hx hb dX9_askYounger_61 hl (k := 3) rfl (by rw [e_61]; rfl) (by decide) rfl (fun ls hl => ?_)
          have h9 : x_61 = nI (j + 1) := by rw [e_61, nI_1]
          subst h9
          refine lv_goto (tgt := 4) hx hb dX9_askYounger_64 (by decide) ?_
          exact ih_4 (j + 1) g_60 (ms_lt hlt hfu) (by omega) (hb1) (hb2) _ _ _ (plP hP [10, 11, 12, 0, 1, 2, 3, 13, 4, 5, 6, 7, 8, 14, 9] rfl) (plD hD [10, 11, 12, 0, 1, 2, 3, 13, 4, 5, 6, 7, 8, 14, 9] (by decide) rfl) hS (lv_sub hl [2, 3, 0] rfl)
        · have hkv : kf j = nI 6 := by rw [hkf, hkk]
          refine lv_aload_n hx hb dX9_askYounger_33 rfl (lv_at hl 1 rfl) ?_
          refine lv_iload_n hx hb dX9_askYounger_34 rfl (lv_at hl 3 rfl) ?_
          have hpd9 := pdf_N (cx := [oX9 h1 po pp ps pa pe pb pv pk pu pw pq pt un fw, oX4 pv ek ef ew ep es (nI n) sy dn, cI aC ek 8 kf, cK aC pk 7 fk]) hP hD hS hA [0, 1, 2, 7] (by decide) rfl
          have hPc := hpd9.1
          have hDc := hpd9.2.1
          have hFc := hpd9.2.2
          clear hpd9
          refine va_callr (va_runV (As := [Value.int (nI j)]) (rest := [Value.int (nI j), Value.ref (rp i)]) ⟨hx, hb, hml, hown, hts⟩ (c_X9_kindOf l dC dI aC H.size h1 po pp ps pa pe pb pv pk pu pw pq pt un fw ek ef ew ep es n sy dn kf fk j 6 k6 (by omega) (hkv) (by omega) (hkd.2.2.2.2.2.2)) ⟨(callB_of 1 hts (gG kw_365) rfl rfl rfl (hts _ (gw kw_11 rfl)) (hts _ (gw kw_362 rfl)) hd_X9_kindOf ⟨Nat.le_of_ble_eq_true rfl, Nat.le_of_ble_eq_true rfl⟩), (hts _ (gw kw_364 rfl)), (hts _ (gw ks_8 rfl))⟩ ⟨fb_std, va_recv (q := (RX9, TX9, 14)) hK hPc (ci := 9) (q0 := 0) rfl rfl, pre_std hPc hK hDc hN⟩ rfl rfl hl.1 rfl (lv_room (Nat.le_of_ble_eq_true rfl)) dX9_askYounger_35 ⟨Nat.le_of_ble_eq_true rfl, Nat.le_of_ble_eq_true rfl⟩) hS (fun q _ h => hFc q h) hFc (fun u9 q_62 t9 H1 locs ht hvm hw_62 hB hz1 hk1 hS => ?_)
          obtain ⟨q_62_e, hP1, hK1, hD1⟩ := hB
          rw [ht] at hP1
          clear hK1
          try dsimp only at hw_62
          have hpd9 : PDx (dC, dI) classes A H1 (wp [cI aC ef 8 ff, cI aC es 5 stf, cA aC pp 8 fp, cA aC ps 8 fs, cO k0 0 [], cO k1 1 [], cO k2 3 [], cO k3 5 [], cO k4 6 [], cO k5 10 [], cO k6 8 [], oX9 h1 po pp ps pa pe pb pv pk pu pw pq pt un fw, oX4 pv ek ef ew ep es (nI n) sy dn, cI aC ek 8 kf, cK aC pk 7 fk] (va_pl L (plE aC gc))) := jn_Q (wr := [cI aC ef 8 ff, cI aC es 5 stf, cA aC pp 8 fp, cA aC ps 8 fs, cO k0 0 [], cO k1 1 [], cO k2 3 [], cO k3 5 [], cO k4 6 [], cO k5 10 [], cO k6 8 []]) hFc hk1 hP1 hD1 hP hD [0, 1, 2, 7] [3, 4, 5, 6, 8, 9, 10, 11, 12, 13, 14] rfl rfl (by decide) (by decide)
          have hP := hpd9.1
          have hD := hpd9.2
          clear hpd9
          generalize H1 = H at hP hS ⊢
          clear hPc hDc hFc hz1 hk1 hP1 hD1 ht hvm
          have h9 := q_62_e.symm
          subst h9
          refine lv_iload_n hx hb dX9_askYounger_38 rfl (lv_at hl 0 rfl) ?_
          refine lv_aload_n hx hb dX9_askYounger_39 rfl (lv_at hl 1 rfl) ?_
          refine va_get (D := (dC, dI)) (ci := 9) (v := Value.ref pv) (C := RX9) (T := TX9) (N := 14) hx hb hts inX9 hown hK hP 11 rfl rfl 6 (by decide) (hts _ (gw kw_162 rfl)) (fun _ h9 => h9) rfl dX9_askYounger_40 ?_
          refine va_get (D := (dC, dI)) (ci := 4) (v := Value.ref ef) (C := RX4) (T := TX4) (N := 8) hx hb hts inX4 hown hK hP 12 rfl rfl 1 (by decide) (hts _ (gw kw_36 rfl)) (fun _ h9 => h9) rfl dX9_askYounger_43 ?_
          refine lv_iload_n hx hb dX9_askYounger_46 rfl (lv_at hl 3 rfl) ?_
          have h_63 : vp_in (nI j) 8 := by first | exact vp_in_nI (by omega) (by omega) | (unfold vp_in; decide) | (subst_vars; first | (unfold vp_in; decide) | exact vp_in_nI (by omega) (by omega))
          refine va_iald hx hb hK hP 0 0 rfl rfl h_63 dX9_askYounger_47 ?_
          refine lv_topi (fun x_64 e_64 => ?_)
          have h9 : x_64 = nI (F j) := by rw [e_64, nI_clamp (by omega)]; exact hff
          subst h9
          refine lv_aload_n hx hb dX9_askYounger_48 rfl (lv_at hl 1 rfl) ?_
          refine va_get (D := (dC, dI)) (ci := 9) (v := Value.ref pv) (C := RX9) (T := TX9) (N := 14) hx hb hts inX9 hown hK hP 11 rfl rfl 6 (by decide) (hts _ (gw kw_162 rfl)) (fun _ h9 => h9) rfl dX9_askYounger_49 ?_
          refine va_get (D := (dC, dI)) (ci := 4) (v := Value.ref es) (C := RX4) (T := TX4) (N := 8) hx hb hts inX4 hown hK hP 12 rfl rfl 4 (by decide) (hts _ (gw kw_44 rfl)) (fun _ h9 => h9) rfl dX9_askYounger_52 ?_
          refine lv_iconst (v := 2) hx hb dX9_askYounger_55 (by decide) ?_
          have h_65 : vp_in 2 5 := by first | exact vp_in_nI (by omega) (by omega) | (unfold vp_in; decide) | (subst_vars; first | (unfold vp_in; decide) | exact vp_in_nI (by omega) (by omega))
          refine va_iald hx hb hK hP 1 0 rfl rfl h_65 dX9_askYounger_56 ?_
          refine lv_topi (fun x_66 e_66 => ?_)
          have h9 : x_66 = (stf 2) := by rw [e_66]; rfl
          subst h9
          have hpd9 := pdf_N (cx := [cO k6 8 []]) hP hD hS hA [10] (by decide) rfl
          have hPc := hpd9.1
          have hDc := hpd9.2.1
          have hFc := hpd9.2.2
          clear hpd9
          refine va_calli (va_runU (As := [Value.int (iI (S j)), Value.int (nI (F j)), Value.int (stf 2)]) (rest := [Value.int (nI j), Value.ref (rp i)]) ⟨hx, hb, hml, hown, hts⟩ (c_X8_ask l dC dI aC H.size k6 (S j) (F j) (stf 2) (hs2) (hfle)) (va_cwO (owner := "EldestSays$Clever") 3 hts (gcons (gw kw_366 rfl) (gcons (gw kw_369 rfl) (gcons (gw kw_367 rfl) (gcons (gw kw_384 rfl) (gcons (gw kw_385 rfl) (gcons (gw kw_10 rfl) (gG kw_386))))))) rfl rfl rfl (gw kw_392 rfl) (by decide +kernel) ⟨Nat.le_of_ble_eq_true rfl, Nat.le_of_ble_eq_true rfl⟩) ⟨fb_std, va_recv (q := (RX8, TX8, 0)) hK hPc (ci := 8) (q0 := 0) rfl rfl, pre_std hPc hK hDc hN⟩ rfl rfl hl.1 rfl (lv_room (Nat.le_of_ble_eq_true rfl)) dX9_askYounger_57 ⟨Nat.le_of_ble_eq_true rfl, Nat.le_of_ble_eq_true rfl⟩) hS (fun q _ h => hFc q h) hFc (fun x_67 u9 t9 H1 locs ht hvm hw_67 hB hz1 hk1 hS => ?_)
          obtain ⟨hP1, hK1, hD1⟩ := hB
          rw [ht] at hP1
          clear hK1
          try dsimp only at hw_67
          have hpd9 : PDx (dC, dI) classes A H1 (wp [cI aC ef 8 ff, cI aC es 5 stf, cA aC pp 8 fp, cA aC ps 8 fs, cO k0 0 [], cO k1 1 [], cO k2 3 [], cO k3 5 [], cO k4 6 [], cO k5 10 [], oX9 h1 po pp ps pa pe pb pv pk pu pw pq pt un fw, oX4 pv ek ef ew ep es (nI n) sy dn, cI aC ek 8 kf, cK aC pk 7 fk, cO k6 8 []] (va_pl L (plE aC gc))) := jn_Q (wr := [cI aC ef 8 ff, cI aC es 5 stf, cA aC pp 8 fp, cA aC ps 8 fs, cO k0 0 [], cO k1 1 [], cO k2 3 [], cO k3 5 [], cO k4 6 [], cO k5 10 [], oX9 h1 po pp ps pa pe pb pv pk pu pw pq pt un fw, oX4 pv ek ef ew ep es (nI n) sy dn, cI aC ek 8 kf, cK aC pk 7 fk]) hFc hk1 hP1 hD1 hP hD [10] [0, 1, 2, 3, 4, 5, 6, 7, 8, 9, 11, 12, 13, 14] rfl rfl (by decide) (by decide)
          have hP := hpd9.1
          have hD := hpd9.2
          clear hpd9
          generalize H1 = H at hP hS ⊢
          clear hPc hDc hFc hz1 hk1 hP1 hD1 ht hvm
          have h9 : x_67 = nI (pr (K j) (F j) (stf 2) (S j)) := by rw [hw_67]; unfold pr; rw [hkk]; rfl
          subst h9
          have h_68 : vp_in (nI j) 8 := by first | exact vp_in_nI (by omega) (by omega) | (unfold vp_in; decide) | (subst_vars; first | (unfold vp_in; decide) | exact vp_in_nI (by omega) (by omega))
          refine pl_iast hx hb hK hP hD hS ((hgr.1 i (by omega)).2.1.2) h_68 dX9_askYounger_60 (fun H locs hP hD hS => ?_)
          obtain ⟨g_69, e_g_69⟩ : ∃ y : Nat → Nat → Int32, y = va_up gc (rp i) (upd (gc (rp i)) (nI j : Int32).toNatClampNeg (nI (pr (K j) (F j) (stf 2) (S j)))) := ⟨_, rfl⟩
          have hpd9 : PDx (dC, dI) classes A H (wp [cI aC ef 8 ff, cI aC es 5 stf, cA aC pp 8 fp, cA aC ps 8 fs, cO k0 0 [], cO k1 1 [], cO k2 3 [], cO k3 5 [], cO k4 6 [], cO k5 10 [], oX9 h1 po pp ps pa pe pb pv pk pu pw pq pt un fw, oX4 pv ek ef ew ep es (nI n) sy dn, cI aC ek 8 kf, cK aC pk 7 fk, cO k6 8 []] (va_pl L (plE aC g_69))) := by rw [e_g_69]; exact ⟨hP, hD⟩
          have hP := hpd9.1
          have hD := hpd9.2
          clear hpd9
          have hb1 : ∀ q, i < q → q < j + 1 → g_69 (rp i) q = nI (pr (K q) (F q) (stf 2) (S q)) := fun q h1 h2 => by
            rw [e_g_69, nI_clamp (by omega)]
            rw [show ∀ (u : Nat → Int32), va_up gc (rp i) u (rp i) = u from fun u => if_pos rfl]
            by_cases e : q = j
            · rw [e, pk_us]
            · rw [pk_un e]; exact hg1 q h1 (by omega)
          have hb2 : ∀ a, a ≠ rp i → g_69 a = g a := fun a h => by
            rw [e_g_69, show ∀ (u : Nat → Int32), va_up gc (rp i) u a = gc a from fun u => if_neg h]
            exact hg2 a h
          obtain ⟨x_70, e_70⟩ : ∃ y : Int32, y = (nI j) + 1 := ⟨_, rfl⟩
          refine lv_iinc (v := x_70) (lv' := [(2, Value.int x_70), (3, Value.int (iI (S j))), (0, Value.ref h1), (1, Value.int (nI i))]) hx hb dX9_askYounger_61 hl (k := 3) rfl (by rw [e_70]; rfl) (by decide) rfl (fun ls hl => ?_)
          have h9 : x_70 = nI (j + 1) := by rw [e_70, nI_1]
          subst h9
          refine lv_goto (tgt := 4) hx hb dX9_askYounger_64 (by decide) ?_
          exact ih_4 (j + 1) g_69 (ms_lt hlt hfu) (by omega) (hb1) (hb2) _ _ _ (plP hP [10, 11, 12, 0, 1, 2, 3, 13, 4, 5, 6, 7, 8, 9, 14] rfl) (plD hD [10, 11, 12, 0, 1, 2, 3, 13, 4, 5, 6, 7, 8, 9, 14] (by decide) rfl) hS (lv_sub hl [2, 3, 0] rfl)
  exact lp_4 ((n - (i + 1)) + 1) (i + 1) g (Nat.lt_succ_self _) (by omega) (fun q h1 h2 => by omega) (fun a _ => rfl) _ _ _ (plP hP [0, 1, 2, 3, 4, 5, 6, 7, 8, 9, 10, 11, 12, 13, 14] rfl) (plD hD [0, 1, 2, 3, 4, 5, 6, 7, 8, 9, 10, 11, 12, 13, 14] (by decide) rfl) hS (lv_sub hl [1, 2, 0] rfl)

end

section
/-! 33.math -/
/-! sums over men, gifts, votes -/
def sumr (f : Nat → Nat) (a : Nat) : Nat → Nat
  | 0 => 0
  | k + 1 => sumr f a k + f (a + k)
theorem sumr_le {f : Nat → Nat} {a b : Nat} : ∀ {k : Nat}, (∀ j, a ≤ j → j < a + k → f j ≤ b) → sumr f a k ≤ b * k
  | 0, _ => Nat.zero_le _
  | k + 1, h => by
    have h1 := sumr_le (f := f) (a := a) (b := b) (k := k) (fun j q1 q2 => h j q1 (by omega))
    have h2 := h (a + k) (by omega) (by omega)
    show sumr f a k + f (a + k) ≤ b * (k + 1)
    rw [Nat.mul_succ]
    omega
theorem sumr_congr {f g : Nat → Nat} {a : Nat} : ∀ {k : Nat}, (∀ j, a ≤ j → j < a + k → f j = g j) → sumr f a k = sumr g a k
  | 0, _ => rfl
  | k + 1, h => by
    show sumr f a k + f (a + k) = sumr g a k + g (a + k)
    rw [sumr_congr (fun j h1 h2 => h j h1 (by omega)), h (a + k) (by omega) (by omega)]
def bt (x : Int32) (i : Nat) : Bool := x.toBitVec.getLsbD i
theorem b_ext {x y : Int32} (h : ∀ i, i < 32 → bt x i = bt y i) : x = y := by
  apply Int32.toBitVec_inj.mp
  apply BitVec.eq_of_getLsbD_eq
  intro i hi
  exact h i hi
theorem b_or (x y : Int32) (i : Nat) : bt (x ||| y) i = (bt x i || bt y i) := by simp [bt]
theorem b_and (x y : Int32) (i : Nat) : bt (x &&& y) i = (bt x i && bt y i) := by simp [bt]
theorem b_0 (i : Nat) : bt 0 i = false := by simp [bt]
theorem b_1 {i : Nat} (hi : i < 32) : bt 1 i = decide (i = 0) := (by decide +kernel : ∀ i, i < 32 → bt 1 i = decide (i = 0)) i hi
/-- one bit -/
theorem b_one : ∀ j, j < 8 → ∀ i, i < 32 → bt ((1 : Int32) <<< (nI j &&& 31)) i = decide (i = j) := by decide +kernel
theorem s_l : ∀ n, n < 32 → ((nI n &&& 31).toBitVec.smod 32).toNat = n := by decide +kernel
theorem b_sshr (n : Nat) (hn : n < 32) (x : Int32) {i : Nat} (hi : i < 32) : bt (x >>> (nI n &&& 31)) i = if n + i < 32 then bt x (n + i) else bt x 31 := by
  unfold bt
  rw [Int32.toBitVec_shiftRight]
  show (x.toBitVec.sshiftRight ((nI n &&& 31).toBitVec.smod 32).toNat).getLsbD i = _
  rw [s_l n hn, BitVec.getLsbD_sshiftRight, BitVec.msb_eq_getLsbD_last]
  simp [hi]
/-- the test of a bit, as Java writes it -/
theorem b_tst {x : Int32} {j : Nat} (hj : j < 32) : (x >>> (nI j &&& 31)) &&& 1 = 1 ↔ bt x j = true := by
  constructor
  · intro h
    have h1 : bt ((x >>> (nI j &&& 31)) &&& 1) 0 = true := by rw [h]; rfl
    rw [b_and, b_sshr j hj x (by omega)] at h1
    simp only [Nat.add_zero, if_pos hj, Bool.and_eq_true] at h1
    exact h1.1
  · intro h
    apply b_ext
    intro i hi
    rw [b_and]
    by_cases e : i = 0
    · subst e
      rw [b_sshr j hj x (by omega)]
      simp only [Nat.add_zero, if_pos hj, h]
      rfl
    · have h1 : bt 1 i = false := by rw [b_1 hi, decide_eq_false e]
      rw [h1]
      simp
/-- the weight of the yes votes from man a on -/
def yw (W : Nat → Nat) (y : Int32) (a k : Nat) : Nat := sumr (fun j => if bt y j = true then W j else 0) a k
def gv (O : Nat → Nat) (i j c : Nat) : Nat → Nat := fun q => if c ≤ O i then (if q = j then c else if q = i then O i - c else O q) else O q
def sE (O : Nat → Nat) (i c : Nat) : Nat → Nat → Nat
  | 0 => O
  | k + 1 => gv (sE O i c k) i (i + 1 + k) c
def sY (O : Nat → Nat) (n i c : Nat) : Nat → Nat → Nat
  | 0 => O
  | k + 1 => gv (sY O n i c k) i (n - 1 - k) c
theorem gv_le {O : Nat → Nat} {i j c : Nat} (hc : c ≤ 99) (h : ∀ q, O q ≤ 99) : ∀ q, gv O i j c q ≤ 99 := by
  intro q
  have h1 := h q
  have h2 := h i
  unfold gv
  repeat' split
  all_goals omega
theorem sE_le {O : Nat → Nat} {i c : Nat} (hc : c ≤ 99) (h : ∀ q, O q ≤ 99) : ∀ k q, sE O i c k q ≤ 99
  | 0, q => h q
  | k + 1, q => gv_le hc (sE_le hc h k) q
theorem sY_le {O : Nat → Nat} {n i c : Nat} (hc : c ≤ 99) (h : ∀ q, O q ≤ 99) : ∀ k q, sY O n i c k q ≤ 99
  | 0, q => h q
  | k + 1, q => gv_le hc (sY_le hc h k) q
theorem up_s {g : Nat → Nat → Int32} {a : Nat} {u : Nat → Int32} : va_up g a u a = u := if_pos rfl
theorem up_n {g : Nat → Nat → Int32} {a b : Nat} {u : Nat → Int32} (h : b ≠ a) : va_up g a u b = g b := if_neg h

end

section
/-! 34.plans2 -/
set_option maxHeartbeats 1000000 in
set_option maxRecDepth 100000 in
/-- X11_isEnough -/
theorem c_X11_isEnough (l : Launch) (dC : Nat → ClassId) (dI : Nat → Nat → Nat) (aC : Nat → ClassId) (sz : Nat) (law : Int32) (y : Nat) (a : Nat) (hy : y ≤ 1000) (ha : a ≤ 1000) : Met l yX11_isEnough (wW yX11_isEnough cX11_isEnough 3 (some .boolean)) ({ frames := 0, cells := 0, slots := 0, locals := 0 } : Room) (va_Pc [Value.int law, Value.int (nI y), Value.int (nI a)] (fun U => U.heap.size = sz ∧ va_P (dC, dI) classes [] U.heap ∧ va_K (dC, dI) classes (TY aC) U ∧ va_D (fun _ => True) [] ∧ NX U)) (va_Qi (fun (r : Int32) (_ : Unit) => r = if nd law a ≤ y then 1 else 0) (fun (_ : Unit) (t : State) => va_P (dC, dI) classes [] t.heap ∧ va_K (dC, dI) classes (TY aC) t ∧ va_D (va_A [] sz) []) (va_A [] sz)) 0 0 (va_A [] sz) := by
  refine Met.ofW (cc := cX11_isEnough) (maxL := 3) (ret := (some .boolean)) (by decide) rfl ?_
  intro p e s m args below meth c s₁ B hml hv
  obtain ⟨rfl, hsz, hP, hK, hD0, hN⟩ := hv
  have hx := B.exec
  have hb := B.bytes
  have hr := B.returns
  have hts0 := atoms_spec (ws := (wW yX11_isEnough cX11_isEnough 3 (some .boolean))) B.pre
  have hts : ∀ w9 ∈ lw_G, w9.before ([Value.int law, Value.int (nI y), Value.int (nI a)] : List Value).toArray s = true := fun w9 h9 => hts0 w9 (List.mem_cons_of_mem _ h9)
  have hown : s.vm.findClass RX11 = some m.cls := findClass_of_methodNamed (x := yX11_isEnough) B.named
  have hlocks := B.notSynchronized
  subst hsz
  have hD := hD0.self (sz := s.heap.size)
  generalize hAe : va_A [] s.heap.size = A at hD ⊢
  have hA : ∀ q : Nat, s.heap.size ≤ q → A q := fun q h => by rw [← hAe]; exact Or.inr h
  obtain ⟨H, hHe⟩ : ∃ H : Heap, H = s.heap := ⟨_, rfl⟩
  have hS : va_S A s.heap H [] := by rw [hHe]; exact va_S.rf
  have hP : va_P (dC, dI) classes [] H := by rw [hHe]; exact hP
  have hl := lv_entry ([Value.int law, Value.int (nI y), Value.int (nI a)]) (n := 3) (Nat.le_of_ble_eq_true rfl)
  rw [lg_entry_eq]
  generalize (lg_sl ([Value.int law, Value.int (nI y), Value.int (nI a)]) ++ List.replicate (3 - (lg_sl ([Value.int law, Value.int (nI y), Value.int (nI a)])).length) Slot.unset).toArray = ls at hl ⊢
  have hl : lv_has ls 3 [(0, Value.int law), (1, Value.int (nI y)), (2, Value.int (nI a))] := hl
  rw [← hHe]
  refine lv_iload_n hx hb dX11_isEnough_0 rfl (lv_at hl 0 rfl) ?_
  by_cases c_1 : law = 0
  · refine lv_lookup (off := 27) (tgt := 28) hx hb dX11_isEnough_1 (by decide) (by rw [c_1]; decide) (by decide) ?_
    refine lv_iconst (v := 2) hx hb dX11_isEnough_28 (by decide) ?_
    refine lv_iload_n hx hb dX11_isEnough_29 rfl (lv_at hl 1 rfl) ?_
    refine lv_imul hx hb dX11_isEnough_30 ?_
    refine lv_topi (fun x_2 e_2 => ?_)
    refine lv_iload_n hx hb dX11_isEnough_31 rfl (lv_at hl 2 rfl) ?_
    refine lv_icmp_lt (tgt := 39) hx hb dX11_isEnough_32 (by decide) (fun c_3 => ?_) (fun c_3 => ?_)
    · refine lv_iconst (v := 0) hx hb dX11_isEnough_39 (by decide) ?_
      have hpd9 := pd_N (cx := []) hP hD [] (by decide) rfl
      have hP9 := hpd9.1
      have hD9 := hpd9.2
      refine W.widen (k := 0) (n := 0) (by omega) (by omega) ?_
      exact W.zret (v := 0) hx hb hr rfl (fun t ht hW => ⟨⟨0, (), rfl, by have h8 := c_3; rw [e_2, en_0 ha hy] at h8; unfold nd; rw [if_pos c_1]; simp [h8], by rw [ht]; exact hP9, va_K.moved hW.alike hK, hD9⟩, hS.F ht⟩) hS.2.2 dX11_isEnough_40
    · refine lv_iconst (v := 1) hx hb dX11_isEnough_35 (by decide) ?_
      refine lv_goto (tgt := 40) hx hb dX11_isEnough_36 (by decide) ?_
      have hpd9 := pd_N (cx := []) hP hD [] (by decide) rfl
      have hP9 := hpd9.1
      have hD9 := hpd9.2
      refine W.widen (k := 0) (n := 0) (by omega) (by omega) ?_
      exact W.zret (v := 1) hx hb hr rfl (fun t ht hW => ⟨⟨1, (), rfl, by have h8 := c_3; rw [e_2, en_0 ha hy] at h8; unfold nd; rw [if_pos c_1]; simp [h8], by rw [ht]; exact hP9, va_K.moved hW.alike hK, hD9⟩, hS.F ht⟩) hS.2.2 dX11_isEnough_40
  by_cases c_4 : law = 1
  · refine lv_lookup (off := 40) (tgt := 41) hx hb dX11_isEnough_1 (by decide) (by rw [c_4]; decide) (by decide) ?_
    refine lv_iconst (v := 2) hx hb dX11_isEnough_41 (by decide) ?_
    refine lv_iload_n hx hb dX11_isEnough_42 rfl (lv_at hl 1 rfl) ?_
    refine lv_imul hx hb dX11_isEnough_43 ?_
    refine lv_topi (fun x_5 e_5 => ?_)
    refine lv_iload_n hx hb dX11_isEnough_44 rfl (lv_at hl 2 rfl) ?_
    refine lv_icmp_le (tgt := 52) hx hb dX11_isEnough_45 (by decide) (fun c_6 => ?_) (fun c_6 => ?_)
    · refine lv_iconst (v := 0) hx hb dX11_isEnough_52 (by decide) ?_
      have hpd9 := pd_N (cx := []) hP hD [] (by decide) rfl
      have hP9 := hpd9.1
      have hD9 := hpd9.2
      refine W.widen (k := 0) (n := 0) (by omega) (by omega) ?_
      exact W.zret (v := 0) hx hb hr rfl (fun t ht hW => ⟨⟨0, (), rfl, by have h8 := c_6; rw [e_5, en_1 ha hy] at h8; unfold nd; rw [if_neg c_1, if_pos c_4]; simp [h8], by rw [ht]; exact hP9, va_K.moved hW.alike hK, hD9⟩, hS.F ht⟩) hS.2.2 dX11_isEnough_53
    · refine lv_iconst (v := 1) hx hb dX11_isEnough_48 (by decide) ?_
      refine lv_goto (tgt := 53) hx hb dX11_isEnough_49 (by decide) ?_
      have hpd9 := pd_N (cx := []) hP hD [] (by decide) rfl
      have hP9 := hpd9.1
      have hD9 := hpd9.2
      refine W.widen (k := 0) (n := 0) (by omega) (by omega) ?_
      exact W.zret (v := 1) hx hb hr rfl (fun t ht hW => ⟨⟨1, (), rfl, by have h8 := c_6; rw [e_5, en_1 ha hy] at h8; unfold nd; rw [if_neg c_1, if_pos c_4]; simp [h8], by rw [ht]; exact hP9, va_K.moved hW.alike hK, hD9⟩, hS.F ht⟩) hS.2.2 dX11_isEnough_53
  refine lv_lookup (off := 53) (tgt := 54) hx hb dX11_isEnough_1 (by decide) (by rw [lv_osw c_1 (by decide)]; rw [lv_osw c_4 (by decide)]; rfl) (by decide) ?_
  refine lv_iconst (v := 3) hx hb dX11_isEnough_54 (by decide) ?_
  refine lv_iload_n hx hb dX11_isEnough_55 rfl (lv_at hl 1 rfl) ?_
  refine lv_imul hx hb dX11_isEnough_56 ?_
  refine lv_topi (fun x_7 e_7 => ?_)
  refine lv_iconst (v := 2) hx hb dX11_isEnough_57 (by decide) ?_
  refine lv_iload_n hx hb dX11_isEnough_58 rfl (lv_at hl 2 rfl) ?_
  refine lv_imul hx hb dX11_isEnough_59 ?_
  refine lv_topi (fun x_8 e_8 => ?_)
  refine lv_icmp_lt (tgt := 67) hx hb dX11_isEnough_60 (by decide) (fun c_9 => ?_) (fun c_9 => ?_)
  · refine lv_iconst (v := 0) hx hb dX11_isEnough_67 (by decide) ?_
    have hpd9 := pd_N (cx := []) hP hD [] (by decide) rfl
    have hP9 := hpd9.1
    have hD9 := hpd9.2
    refine W.widen (k := 0) (n := 0) (by omega) (by omega) ?_
    exact W.zret (v := 0) hx hb hr rfl (fun t ht hW => ⟨⟨0, (), rfl, by have h8 := c_9; rw [e_7, e_8, en_2 ha hy] at h8; unfold nd; rw [if_neg c_1, if_neg c_4]; simp [h8], by rw [ht]; exact hP9, va_K.moved hW.alike hK, hD9⟩, hS.F ht⟩) hS.2.2 dX11_isEnough_68
  · refine lv_iconst (v := 1) hx hb dX11_isEnough_63 (by decide) ?_
    refine lv_goto (tgt := 68) hx hb dX11_isEnough_64 (by decide) ?_
    have hpd9 := pd_N (cx := []) hP hD [] (by decide) rfl
    have hP9 := hpd9.1
    have hD9 := hpd9.2
    refine W.widen (k := 0) (n := 0) (by omega) (by omega) ?_
    exact W.zret (v := 1) hx hb hr rfl (fun t ht hW => ⟨⟨1, (), rfl, by have h8 := c_9; rw [e_7, e_8, en_2 ha hy] at h8; unfold nd; rw [if_neg c_1, if_neg c_4]; simp [h8], by rw [ht]; exact hP9, va_K.moved hW.alike hK, hD9⟩, hS.F ht⟩) hS.2.2 dX11_isEnough_68

set_option maxHeartbeats 1000000 in
set_option maxRecDepth 100000 in
/-- J7_fill_p -/
theorem c_J7_fill_p (l : Launch) (dC : Nat → ClassId) (dI : Nat → Nat → Nat) (aC : Nat → ClassId) (sz : Nat) (L : List Nat) (g : Nat → Nat → Int32) (ra : Nat) (v : Int32) (hm : ra ∈ L) : Met l yJ7_fill_53178 (wW yJ7_fill_53178 cJ7_fill_53178 4 (none : Option FieldType)) ({ frames := 0, cells := 0, slots := 0, locals := 0 } : Room) (va_Pc [Value.ref ra, Value.int v] (fun U => U.heap.size = sz ∧ va_P (dC, dI) classes (wp [] (va_pl L (plE aC g))) U.heap ∧ va_K (dC, dI) classes (TY aC) U ∧ va_D (fun _ => True) (wp [] (va_pl L (plE aC g))) ∧ NX U)) (va_Qv (fun (g2 : Nat → Nat → Int32) => (∀ j, j < 8 → g2 ra j = v) ∧ ∀ a, a ≠ ra → g2 a = g a) (fun (g2 : Nat → Nat → Int32) (t : State) => va_P (dC, dI) classes (wp [] (va_pl L (plE aC g2))) t.heap ∧ va_K (dC, dI) classes (TY aC) t ∧ va_D (va_A (wp [] (va_pl L (plE aC g))) sz) (wp [] (va_pl L (plE aC g2)))) (va_A (wp [] (va_pl L (plE aC g))) sz)) 0 0 (va_A (wp [] (va_pl L (plE aC g))) sz) := by
  refine Met.ofW (cc := cJ7_fill_53178) (maxL := 4) (ret := (none : Option FieldType)) (by decide) rfl ?_
  intro p e s m args below meth c s₁ B hml hv
  obtain ⟨rfl, hsz, hP, hK, hD0, hN⟩ := hv
  have hx := B.exec
  have hb := B.bytes
  have hr := B.returns
  have hts0 := atoms_spec (ws := (wW yJ7_fill_53178 cJ7_fill_53178 4 (none : Option FieldType))) B.pre
  have hts : ∀ w9 ∈ lw_G, w9.before ([Value.ref ra, Value.int v] : List Value).toArray s = true := fun w9 h9 => hts0 w9 (List.mem_cons_of_mem _ h9)
  have hown : s.vm.findClass RJ7 = some m.cls := findClass_of_methodNamed (x := yJ7_fill_53178) B.named
  have hlocks := B.notSynchronized
  subst hsz
  have hD := hD0.self (sz := s.heap.size)
  generalize hAe : va_A (wp [] (va_pl L (plE aC g))) s.heap.size = A at hD ⊢
  have hA : ∀ q : Nat, s.heap.size ≤ q → A q := fun q h => by rw [← hAe]; exact Or.inr h
  obtain ⟨H, hHe⟩ : ∃ H : Heap, H = s.heap := ⟨_, rfl⟩
  have hS : va_S A s.heap H [] := by rw [hHe]; exact va_S.rf
  have hP : va_P (dC, dI) classes (wp [] (va_pl L (plE aC g))) H := by rw [hHe]; exact hP
  have hl := lv_entry ([Value.ref ra, Value.int v]) (n := 4) (Nat.le_of_ble_eq_true rfl)
  rw [lg_entry_eq]
  generalize (lg_sl ([Value.ref ra, Value.int v]) ++ List.replicate (4 - (lg_sl ([Value.ref ra, Value.int v])).length) Slot.unset).toArray = ls at hl ⊢
  have hl : lv_has ls 4 [(0, Value.ref ra), (1, Value.int v)] := hl
  rw [← hHe]
  refine lv_iconst (v := 0) hx hb dJ7_fill_53178_0 (by decide) ?_
  refine lv_istore_n (lv' := [(2, Value.int 0), (0, Value.ref ra), (1, Value.int v)]) hx hb dJ7_fill_53178_1 rfl hl (by decide) rfl (fun ls hl => ?_)
  refine lv_aload_n hx hb dJ7_fill_53178_2 rfl (lv_at hl 1 rfl) ?_
  refine pl_alen hx hb hK hP (hm) dJ7_fill_53178_3 ?_
  refine lv_istore_n (lv' := [(3, Value.int 8), (2, Value.int 0), (0, Value.ref ra), (1, Value.int v)]) hx hb dJ7_fill_53178_4 rfl hl (by decide) rfl (fun ls hl => ?_)
  have lp_5 : ∀ (fu : Nat) (k : Nat) (gc : Nat → Nat → Int32) (hfu : 8 - k < fu) (hk : k ≤ 8) (hg1 : ∀ j, j < k → gc ra j = v) (hg2 : ∀ a, a ≠ ra → gc a = g a) (H : Heap) (locs : List Loc) (ls : Array Slot), va_P (dC, dI) classes (wp [] (va_pl L (plE aC gc))) H → va_D A (wp [] (va_pl L (plE aC gc))) → va_S A s.heap H locs → lv_has ls 4 [(0, Value.ref ra), (1, Value.int v), (2, Value.int (nI k)), (3, Value.int 8)] → W p l e (headSpec (wW yJ7_fill_53178 cJ7_fill_53178 4 (none : Option FieldType)) ({ frames := 0, cells := 0, slots := 0, locals := 0 } : Room)).room s m ([Value.ref ra, Value.int v] : List Value).toArray below meth c H locs 0 0 (MQ below (va_Qv (fun (g2 : Nat → Nat → Int32) => (∀ j, j < 8 → g2 ra j = v) ∧ ∀ a, a ≠ ra → g2 a = g a) (fun (g2 : Nat → Nat → Int32) (t : State) => va_P (dC, dI) classes (wp [] (va_pl L (plE aC g2))) t.heap ∧ va_K (dC, dI) classes (TY aC) t ∧ va_D A (wp [] (va_pl L (plE aC g2)))) A) ([Value.ref ra, Value.int v] : List Value).toArray s 0 0 A) (F0 m 5 ls []) := by
    intro fu
    induction fu with
    | zero => intro k gc hfu; exact absurd hfu (Nat.not_lt_zero _)
    | succ fu ih_5 =>
      intro k gc hfu hk hg1 hg2 H locs ls hP hD hS hl
      refine lv_iload_n hx hb dJ7_fill_53178_5 rfl (lv_at hl 2 rfl) ?_
      refine lv_iload_n hx hb dJ7_fill_53178_6 rfl (lv_at hl 3 rfl) ?_
      refine lv_icmp_ge (tgt := 20) hx hb dJ7_fill_53178_7 (by decide) (fun c_1 => ?_) (fun c_1 => ?_)
      · have hk8 : k = 8 := by
          rcases Nat.lt_or_ge k 8 with q | q
          · exact absurd c_1 (nI_ge (b := 8) q (by omega))
          · omega
        have hpd9 := pd_P (cx := []) hP hD [] (by decide) rfl
        have hP9 := hpd9.1
        have hD9 := hpd9.2
        refine W.widen (k := 0) (n := 0) (by omega) (by omega) ?_
        exact W.vret hx hb hr (fun t ht hW => ⟨⟨(gc), rfl, ⟨fun j h => hg1 j (by omega), hg2⟩, by rw [ht]; exact hP9, va_K.moved hW.alike hK, hD9⟩, hS.F ht⟩) hS.2.2 dJ7_fill_53178_20
      · have hlt : k < 8 := by
          rcases Nat.lt_or_ge k 8 with q | q
          · exact q
          · exact absurd (nI_le (a := 8) q (by omega)) c_1
        refine lv_aload_n hx hb dJ7_fill_53178_10 rfl (lv_at hl 0 rfl) ?_
        refine lv_iload_n hx hb dJ7_fill_53178_11 rfl (lv_at hl 2 rfl) ?_
        refine lv_iload_n hx hb dJ7_fill_53178_12 rfl (lv_at hl 1 rfl) ?_
        have h_2 : vp_in (nI k) 8 := vp_in_nI (by omega) (by omega)
        refine pl_iast hx hb hK hP hD hS (hm) h_2 dJ7_fill_53178_13 (fun H locs hP hD hS => ?_)
        obtain ⟨g_3, e_g_3⟩ : ∃ y : Nat → Nat → Int32, y = va_up gc ra (upd (gc ra) (nI k : Int32).toNatClampNeg v) := ⟨_, rfl⟩
        have hpd9 : PDx (dC, dI) classes A H (wp [] (va_pl L (plE aC g_3))) := by rw [e_g_3]; exact ⟨hP, hD⟩
        have hP := hpd9.1
        have hD := hpd9.2
        clear hpd9
        have hb1 : ∀ j, j < k + 1 → g_3 ra j = v := fun j h => by
          rw [e_g_3, nI_clamp (by omega), up_s]
          by_cases e : j = k
          · rw [e, pk_us]
          · rw [pk_un e]; exact hg1 j (by omega)
        have hb2 : ∀ a, a ≠ ra → g_3 a = g a := fun a h => by rw [e_g_3, up_n h]; exact hg2 a h
        obtain ⟨x_4, e_4⟩ : ∃ y : Int32, y = (nI k) + 1 := ⟨_, rfl⟩
        refine lv_iinc (v := x_4) (lv' := [(2, Value.int x_4), (0, Value.ref ra), (1, Value.int v), (3, Value.int 8)]) hx hb dJ7_fill_53178_14 hl (k := 2) rfl (by rw [e_4]; rfl) (by decide) rfl (fun ls hl => ?_)
        have h9 : x_4 = nI (k + 1) := by rw [e_4, nI_1]
        subst h9
        refine lv_goto (tgt := 5) hx hb dJ7_fill_53178_17 (by decide) ?_
        exact ih_5 (k + 1) g_3 (by omega) (by omega) (hb1) (hb2) _ _ _ (plP hP [] rfl) (plD hD [] (by decide) rfl) hS (lv_sub hl [1, 2, 0, 3] rfl)
  exact lp_5 ((8 - 0) + 1) 0 g (Nat.lt_succ_self _) (by omega) (fun j h => by omega) (fun a _ => rfl) _ _ _ (plP hP [] rfl) (plD hD [] (by decide) rfl) hS (lv_sub hl [2, 3, 1, 0] rfl)

set_option maxHeartbeats 1000000 in
set_option maxRecDepth 100000 in
/-- X9_keepAll -/
theorem c_X9_keepAll (l : Launch) (dC : Nat → ClassId) (dI : Nat → Nat → Nat) (aC : Nat → ClassId) (sz : Nat) (h1 : Nat) (po : Nat) (pp : Nat) (ps : Nat) (pa : Nat) (pe : Nat) (pb : Nat) (pv : Nat) (pk : Nat) (pu : Nat) (pw : Nat) (pq : Nat) (pt : Nat) (un : Int32) (fw : Int32) (ek : Nat) (ef : Nat) (ew : Nat) (ep : Nat) (es : Nat) (n : Nat) (sy : Int32) (dn : Int32) (stf : Nat → Int32) (L : List Nat) (g : Nat → Nat → Int32) (fo : Nat → Option Nat) (fp : Nat → Option Nat) (fs : Nat → Option Nat) (ro : Nat → Nat) (rp : Nat → Nat) (rs : Nat → Nat) (i : Nat) (cq : Nat) (hgr : GRD L fo fp fs ro rp rs) (hi : i < 8) (hcq : stf 0 = nI cq) : Met l yX9_keepAll (wW yX9_keepAll cX9_keepAll 2 (none : Option FieldType)) ({ frames := 1, cells := 0, slots := 0, locals := 23 } : Room) (va_Pc [Value.ref h1, Value.int (nI i)] (fun U => U.heap.size = sz ∧ va_P (dC, dI) classes (wp [oX9 h1 po pp ps pa pe pb pv pk pu pw pq pt un fw, oX4 pv ek ef ew ep es (nI n) sy dn, cI aC es 5 stf, cA aC po 8 fo] (va_pl L (plE aC g))) U.heap ∧ va_K (dC, dI) classes (TY aC) U ∧ va_D (fun _ => True) (wp [oX9 h1 po pp ps pa pe pb pv pk pu pw pq pt un fw, oX4 pv ek ef ew ep es (nI n) sy dn, cI aC es 5 stf, cA aC po 8 fo] (va_pl L (plE aC g))) ∧ NX U)) (va_Qv (fun (g2 : Nat → Nat → Int32) => (∀ q, q < 8 → g2 (ro i) q = nI (if q = i then cq else 0)) ∧ ∀ a, a ≠ ro i → g2 a = g a) (fun (g2 : Nat → Nat → Int32) (t : State) => va_P (dC, dI) classes (wp [oX9 h1 po pp ps pa pe pb pv pk pu pw pq pt un fw, oX4 pv ek ef ew ep es (nI n) sy dn, cI aC es 5 stf, cA aC po 8 fo] (va_pl L (plE aC g2))) t.heap ∧ va_K (dC, dI) classes (TY aC) t ∧ va_D (va_A (wp [oX9 h1 po pp ps pa pe pb pv pk pu pw pq pt un fw, oX4 pv ek ef ew ep es (nI n) sy dn, cI aC es 5 stf, cA aC po 8 fo] (va_pl L (plE aC g))) sz) (wp [oX9 h1 po pp ps pa pe pb pv pk pu pw pq pt un fw, oX4 pv ek ef ew ep es (nI n) sy dn, cI aC es 5 stf, cA aC po 8 fo] (va_pl L (plE aC g2)))) (va_A (wp [oX9 h1 po pp ps pa pe pb pv pk pu pw pq pt un fw, oX4 pv ek ef ew ep es (nI n) sy dn, cI aC es 5 stf, cA aC po 8 fo] (va_pl L (plE aC g))) sz)) 0 0 (va_A (wp [oX9 h1 po pp ps pa pe pb pv pk pu pw pq pt un fw, oX4 pv ek ef ew ep es (nI n) sy dn, cI aC es 5 stf, cA aC po 8 fo] (va_pl L (plE aC g))) sz) := by
  refine Met.ofW (cc := cX9_keepAll) (maxL := 2) (ret := (none : Option FieldType)) (by decide) rfl ?_
  intro p e s m args below meth c s₁ B hml hv
  obtain ⟨rfl, hsz, hP, hK, hD0, hN⟩ := hv
  have hx := B.exec
  have hb := B.bytes
  have hr := B.returns
  have hts0 := atoms_spec (ws := (wW yX9_keepAll cX9_keepAll 2 (none : Option FieldType))) B.pre
  have hts : ∀ w9 ∈ lw_G, w9.before ([Value.ref h1, Value.int (nI i)] : List Value).toArray s = true := fun w9 h9 => hts0 w9 (List.mem_cons_of_mem _ h9)
  have hown : s.vm.findClass RX9 = some m.cls := findClass_of_methodNamed (x := yX9_keepAll) B.named
  have hlocks := B.notSynchronized
  subst hsz
  have hD := hD0.self (sz := s.heap.size)
  generalize hAe : va_A (wp [oX9 h1 po pp ps pa pe pb pv pk pu pw pq pt un fw, oX4 pv ek ef ew ep es (nI n) sy dn, cI aC es 5 stf, cA aC po 8 fo] (va_pl L (plE aC g))) s.heap.size = A at hD ⊢
  have hA : ∀ q : Nat, s.heap.size ≤ q → A q := fun q h => by rw [← hAe]; exact Or.inr h
  obtain ⟨H, hHe⟩ : ∃ H : Heap, H = s.heap := ⟨_, rfl⟩
  have hS : va_S A s.heap H [] := by rw [hHe]; exact va_S.rf
  have hP : va_P (dC, dI) classes (wp [oX9 h1 po pp ps pa pe pb pv pk pu pw pq pt un fw, oX4 pv ek ef ew ep es (nI n) sy dn, cI aC es 5 stf, cA aC po 8 fo] (va_pl L (plE aC g))) H := by rw [hHe]; exact hP
  have hl := lv_entry ([Value.ref h1, Value.int (nI i)]) (n := 2) (Nat.le_of_ble_eq_true rfl)
  rw [lg_entry_eq]
  generalize (lg_sl ([Value.ref h1, Value.int (nI i)]) ++ List.replicate (2 - (lg_sl ([Value.ref h1, Value.int (nI i)])).length) Slot.unset).toArray = ls at hl ⊢
  have hl : lv_has ls 2 [(0, Value.ref h1), (1, Value.int (nI i))] := hl
  rw [← hHe]
  refine lv_aload_n hx hb dX9_keepAll_0 rfl (lv_at hl 0 rfl) ?_
  refine va_get (D := (dC, dI)) (ci := 9) (v := Value.ref po) (C := RX9) (T := TX9) (N := 14) hx hb hts inX9 hown hK hP 0 rfl rfl 0 (by decide) (hts _ (gw kw_150 rfl)) (fun _ h9 => h9) rfl dX9_keepAll_1 ?_
  refine lv_iload_n hx hb dX9_keepAll_4 rfl (lv_at hl 1 rfl) ?_
  have h_1 : vp_in (nI i) 8 := by first | exact vp_in_nI (by omega) (by omega) | (unfold vp_in; decide) | (subst_vars; first | (unfold vp_in; decide) | exact vp_in_nI (by omega) (by omega))
  refine va_alda (r := ro i) hx hb hK hP 3 rfl h_1 (by rw [nI_clamp (by omega)]; exact (hgr.1 i (by omega)).1.1) dX9_keepAll_5 ?_
  refine lv_iconst (v := 0) hx hb dX9_keepAll_6 (by decide) ?_
  have hpd9 := pdf_P (cx := []) hP hD hS hA [] (by decide) rfl
  have hPc := hpd9.1
  have hDc := hpd9.2.1
  have hFc := hpd9.2.2
  clear hpd9
  refine va_callv (va_runS (As := [Value.ref (ro i), Value.int 0]) (rest := []) ⟨hx, hb, hml, hown, hts⟩ (c_J7_fill_p l dC dI aC H.size L g (ro i) 0 ((hgr.1 i (by omega)).1.2)) ⟨(callB_of 2 hts (gG kw_399) rfl rfl rfl (hts _ (gw kw_15 rfl)) (hts _ (gw kw_397 rfl)) hd_J7_fill_53178 ⟨Nat.le_of_ble_eq_true rfl, Nat.le_of_ble_eq_true rfl⟩), (hts _ (gw kw_398 rfl))⟩ ⟨fb_std, pre_std hPc hK hDc hN⟩ rfl rfl hl.1 rfl (lv_room (Nat.le_of_ble_eq_true rfl)) dX9_keepAll_7 ⟨Nat.le_of_ble_eq_true rfl, Nat.le_of_ble_eq_true rfl⟩) hS (fun q _ h => hFc q h) hFc (fun u9 t9 H1 locs ht hvm hw_2 hB hz1 hk1 hS => ?_)
  obtain ⟨u_3, rfl⟩ : ∃ z, z = u9 := ⟨_, rfl⟩
  obtain ⟨hP1, hK1, hD1⟩ := hB
  rw [ht] at hP1
  clear hK1
  try dsimp only at hw_2
  have hpd9 : PDx (dC, dI) classes A H1 (wp [oX9 h1 po pp ps pa pe pb pv pk pu pw pq pt un fw, oX4 pv ek ef ew ep es (nI n) sy dn, cI aC es 5 stf, cA aC po 8 fo] (va_pl L (plE aC u_3))) := jn_P (wr := [oX9 h1 po pp ps pa pe pb pv pk pu pw pq pt un fw, oX4 pv ek ef ew ep es (nI n) sy dn, cI aC es 5 stf, cA aC po 8 fo]) hFc hk1 hP1 hD1 hP hD [] [0, 1, 2, 3] rfl rfl (by decide) (by decide)
  have hP := hpd9.1
  have hD := hpd9.2
  clear hpd9
  generalize H1 = H at hP hS ⊢
  clear hPc hDc hFc hz1 hk1 hP1 hD1 ht hvm
  obtain ⟨hf1, hf2⟩ := hw_2
  refine lv_aload_n hx hb dX9_keepAll_10 rfl (lv_at hl 0 rfl) ?_
  refine va_get (D := (dC, dI)) (ci := 9) (v := Value.ref po) (C := RX9) (T := TX9) (N := 14) hx hb hts inX9 hown hK hP 0 rfl rfl 0 (by decide) (hts _ (gw kw_150 rfl)) (fun _ h9 => h9) rfl dX9_keepAll_11 ?_
  refine lv_iload_n hx hb dX9_keepAll_14 rfl (lv_at hl 1 rfl) ?_
  have h_4 : vp_in (nI i) 8 := by first | exact vp_in_nI (by omega) (by omega) | (unfold vp_in; decide) | (subst_vars; first | (unfold vp_in; decide) | exact vp_in_nI (by omega) (by omega))
  refine va_alda (r := ro i) hx hb hK hP 3 rfl h_4 (by rw [nI_clamp (by omega)]; exact (hgr.1 i (by omega)).1.1) dX9_keepAll_15 ?_
  refine lv_iload_n hx hb dX9_keepAll_16 rfl (lv_at hl 1 rfl) ?_
  refine lv_aload_n hx hb dX9_keepAll_17 rfl (lv_at hl 0 rfl) ?_
  refine va_get (D := (dC, dI)) (ci := 9) (v := Value.ref pv) (C := RX9) (T := TX9) (N := 14) hx hb hts inX9 hown hK hP 0 rfl rfl 6 (by decide) (hts _ (gw kw_162 rfl)) (fun _ h9 => h9) rfl dX9_keepAll_18 ?_
  refine va_get (D := (dC, dI)) (ci := 4) (v := Value.ref es) (C := RX4) (T := TX4) (N := 8) hx hb hts inX4 hown hK hP 1 rfl rfl 4 (by decide) (hts _ (gw kw_44 rfl)) (fun _ h9 => h9) rfl dX9_keepAll_21 ?_
  refine lv_iconst (v := 0) hx hb dX9_keepAll_24 (by decide) ?_
  have h_5 : vp_in 0 5 := by first | exact vp_in_nI (by omega) (by omega) | (unfold vp_in; decide) | (subst_vars; first | (unfold vp_in; decide) | exact vp_in_nI (by omega) (by omega))
  refine va_iald hx hb hK hP 2 0 rfl rfl h_5 dX9_keepAll_25 ?_
  refine lv_topi (fun x_6 e_6 => ?_)
  have h9 : x_6 = nI cq := by rw [e_6]; exact hcq
  subst h9
  have h_7 : vp_in (nI i) 8 := by first | exact vp_in_nI (by omega) (by omega) | (unfold vp_in; decide) | (subst_vars; first | (unfold vp_in; decide) | exact vp_in_nI (by omega) (by omega))
  refine pl_iast hx hb hK hP hD hS ((hgr.1 i (by omega)).1.2) h_7 dX9_keepAll_26 (fun H locs hP hD hS => ?_)
  obtain ⟨g_8, e_g_8⟩ : ∃ y : Nat → Nat → Int32, y = va_up u_3 (ro i) (upd (u_3 (ro i)) (nI i : Int32).toNatClampNeg (nI cq)) := ⟨_, rfl⟩
  have hpd9 : PDx (dC, dI) classes A H (wp [oX9 h1 po pp ps pa pe pb pv pk pu pw pq pt un fw, oX4 pv ek ef ew ep es (nI n) sy dn, cI aC es 5 stf, cA aC po 8 fo] (va_pl L (plE aC g_8))) := by rw [e_g_8]; exact ⟨hP, hD⟩
  have hP := hpd9.1
  have hD := hpd9.2
  clear hpd9
  have hpd9 := pd_P (cx := [oX9 h1 po pp ps pa pe pb pv pk pu pw pq pt un fw, oX4 pv ek ef ew ep es (nI n) sy dn, cI aC es 5 stf, cA aC po 8 fo]) hP hD [0, 1, 2, 3] (by decide) rfl
  have hP9 := hpd9.1
  have hD9 := hpd9.2
  refine W.widen (k := 0) (n := 0) (by omega) (by omega) ?_
  exact W.vret hx hb hr (fun t ht hW => ⟨⟨(g_8), rfl, ⟨fun q hq => by rw [e_g_8, nI_clamp (by omega), up_s]; by_cases e : q = i <;> first | (rw [e, pk_us, if_pos rfl]; done) | (rw [pk_un e, if_neg e]; exact hf1 q hq), fun a h => by rw [e_g_8, up_n h]; exact hf2 a h⟩, by rw [ht]; exact hP9, va_K.moved hW.alike hK, hD9⟩, hS.F ht⟩) hS.2.2 dX9_keepAll_27

set_option maxHeartbeats 1000000 in
set_option maxRecDepth 100000 in
/-- X9_give -/
theorem c_X9_give (l : Launch) (dC : Nat → ClassId) (dI : Nat → Nat → Nat) (aC : Nat → ClassId) (sz : Nat) (h1 : Nat) (po : Nat) (pp : Nat) (ps : Nat) (pa : Nat) (pe : Nat) (pb : Nat) (pv : Nat) (pk : Nat) (pu : Nat) (pw : Nat) (pq : Nat) (pt : Nat) (un : Int32) (fw : Int32) (L : List Nat) (g : Nat → Nat → Int32) (fo : Nat → Option Nat) (fp : Nat → Option Nat) (fs : Nat → Option Nat) (ro : Nat → Nat) (rp : Nat → Nat) (rs : Nat → Nat) (i : Nat) (j : Nat) (cn0 : Nat) (O : Nat → Nat) (hgr : GRD L fo fp fs ro rp rs) (hij : i < j ∧ j < 8) (hc : cn0 ≤ 99) (hO : ∀ q, q < 8 → g (ro i) q = nI (O q)) (hO9 : ∀ q, O q ≤ 99) : Met l yX9_give (wW yX9_give cX9_give 4 (none : Option FieldType)) ({ frames := 0, cells := 0, slots := 0, locals := 0 } : Room) (va_Pc [Value.ref h1, Value.int (nI i), Value.int (nI j), Value.int (nI cn0)] (fun U => U.heap.size = sz ∧ va_P (dC, dI) classes (wp [oX9 h1 po pp ps pa pe pb pv pk pu pw pq pt un fw, cA aC po 8 fo] (va_pl L (plE aC g))) U.heap ∧ va_K (dC, dI) classes (TY aC) U ∧ va_D (fun _ => True) (wp [oX9 h1 po pp ps pa pe pb pv pk pu pw pq pt un fw, cA aC po 8 fo] (va_pl L (plE aC g))) ∧ NX U)) (va_Qv (fun (g2 : Nat → Nat → Int32) => (∀ q, q < 8 → g2 (ro i) q = nI (gv O i j cn0 q)) ∧ ∀ a, a ≠ ro i → g2 a = g a) (fun (g2 : Nat → Nat → Int32) (t : State) => va_P (dC, dI) classes (wp [oX9 h1 po pp ps pa pe pb pv pk pu pw pq pt un fw, cA aC po 8 fo] (va_pl L (plE aC g2))) t.heap ∧ va_K (dC, dI) classes (TY aC) t ∧ va_D (va_A (wp [oX9 h1 po pp ps pa pe pb pv pk pu pw pq pt un fw, cA aC po 8 fo] (va_pl L (plE aC g))) sz) (wp [oX9 h1 po pp ps pa pe pb pv pk pu pw pq pt un fw, cA aC po 8 fo] (va_pl L (plE aC g2)))) (va_A (wp [oX9 h1 po pp ps pa pe pb pv pk pu pw pq pt un fw, cA aC po 8 fo] (va_pl L (plE aC g))) sz)) 0 0 (va_A (wp [oX9 h1 po pp ps pa pe pb pv pk pu pw pq pt un fw, cA aC po 8 fo] (va_pl L (plE aC g))) sz) := by
  refine Met.ofW (cc := cX9_give) (maxL := 4) (ret := (none : Option FieldType)) (by decide) rfl ?_
  intro p e s m args below meth c s₁ B hml hv
  obtain ⟨rfl, hsz, hP, hK, hD0, hN⟩ := hv
  have hx := B.exec
  have hb := B.bytes
  have hr := B.returns
  have hts0 := atoms_spec (ws := (wW yX9_give cX9_give 4 (none : Option FieldType))) B.pre
  have hts : ∀ w9 ∈ lw_G, w9.before ([Value.ref h1, Value.int (nI i), Value.int (nI j), Value.int (nI cn0)] : List Value).toArray s = true := fun w9 h9 => hts0 w9 (List.mem_cons_of_mem _ h9)
  have hown : s.vm.findClass RX9 = some m.cls := findClass_of_methodNamed (x := yX9_give) B.named
  have hlocks := B.notSynchronized
  subst hsz
  have hD := hD0.self (sz := s.heap.size)
  generalize hAe : va_A (wp [oX9 h1 po pp ps pa pe pb pv pk pu pw pq pt un fw, cA aC po 8 fo] (va_pl L (plE aC g))) s.heap.size = A at hD ⊢
  have hA : ∀ q : Nat, s.heap.size ≤ q → A q := fun q h => by rw [← hAe]; exact Or.inr h
  obtain ⟨H, hHe⟩ : ∃ H : Heap, H = s.heap := ⟨_, rfl⟩
  have hS : va_S A s.heap H [] := by rw [hHe]; exact va_S.rf
  have hP : va_P (dC, dI) classes (wp [oX9 h1 po pp ps pa pe pb pv pk pu pw pq pt un fw, cA aC po 8 fo] (va_pl L (plE aC g))) H := by rw [hHe]; exact hP
  have hl := lv_entry ([Value.ref h1, Value.int (nI i), Value.int (nI j), Value.int (nI cn0)]) (n := 4) (Nat.le_of_ble_eq_true rfl)
  rw [lg_entry_eq]
  generalize (lg_sl ([Value.ref h1, Value.int (nI i), Value.int (nI j), Value.int (nI cn0)]) ++ List.replicate (4 - (lg_sl ([Value.ref h1, Value.int (nI i), Value.int (nI j), Value.int (nI cn0)])).length) Slot.unset).toArray = ls at hl ⊢
  have hl : lv_has ls 4 [(0, Value.ref h1), (1, Value.int (nI i)), (2, Value.int (nI j)), (3, Value.int (nI cn0))] := hl
  rw [← hHe]
  have hoi := hO9 i
  refine lv_aload_n hx hb dX9_give_0 rfl (lv_at hl 0 rfl) ?_
  refine va_get (D := (dC, dI)) (ci := 9) (v := Value.ref po) (C := RX9) (T := TX9) (N := 14) hx hb hts inX9 hown hK hP 0 rfl rfl 0 (by decide) (hts _ (gw kw_150 rfl)) (fun _ h9 => h9) rfl dX9_give_1 ?_
  refine lv_iload_n hx hb dX9_give_4 rfl (lv_at hl 1 rfl) ?_
  have h_1 : vp_in (nI i) 8 := by first | exact vp_in_nI (by omega) (by omega) | (unfold vp_in; decide) | (subst_vars; first | (unfold vp_in; decide) | exact vp_in_nI (by omega) (by omega))
  refine va_alda (r := ro i) hx hb hK hP 1 rfl h_1 (by rw [nI_clamp (by omega)]; exact (hgr.1 i (by omega)).1.1) dX9_give_5 ?_
  refine lv_iload_n hx hb dX9_give_6 rfl (lv_at hl 1 rfl) ?_
  have h_2 : vp_in (nI i) 8 := by first | exact vp_in_nI (by omega) (by omega) | (unfold vp_in; decide) | (subst_vars; first | (unfold vp_in; decide) | exact vp_in_nI (by omega) (by omega))
  refine pl_iald hx hb hK hP ((hgr.1 i (by omega)).1.2) h_2 dX9_give_7 ?_
  refine lv_topi (fun x_3 e_3 => ?_)
  have h9 : x_3 = nI (O i) := by rw [e_3, nI_clamp (by omega)]; exact hO i (by omega)
  subst h9
  refine lv_iload_n hx hb dX9_give_8 rfl (lv_at hl 3 rfl) ?_
  refine lv_icmp_lt (tgt := 33) hx hb dX9_give_9 (by decide) (fun c_4 => ?_) (fun c_4 => ?_)
  · have hpd9 := pd_P (cx := [oX9 h1 po pp ps pa pe pb pv pk pu pw pq pt un fw, cA aC po 8 fo]) hP hD [0, 1] (by decide) rfl
    have hP9 := hpd9.1
    have hD9 := hpd9.2
    refine W.widen (k := 0) (n := 0) (by omega) (by omega) ?_
    exact W.vret hx hb hr (fun t ht hW => ⟨⟨(g), rfl, ⟨fun q hq => by rw [hO q hq]; unfold gv; rw [if_neg (by have := (nI_ltI (by omega) (by omega)).mp c_4; omega)], fun a _ => rfl⟩, by rw [ht]; exact hP9, va_K.moved hW.alike hK, hD9⟩, hS.F ht⟩) hS.2.2 dX9_give_33
  · have hle : cn0 ≤ O i := by
      rcases Nat.lt_or_ge (O i) cn0 with q | q
      · exact absurd (nI_lt q (by omega)) c_4
      · exact q
    refine lv_aload_n hx hb dX9_give_12 rfl (lv_at hl 0 rfl) ?_
    refine va_get (D := (dC, dI)) (ci := 9) (v := Value.ref po) (C := RX9) (T := TX9) (N := 14) hx hb hts inX9 hown hK hP 0 rfl rfl 0 (by decide) (hts _ (gw kw_150 rfl)) (fun _ h9 => h9) rfl dX9_give_13 ?_
    refine lv_iload_n hx hb dX9_give_16 rfl (lv_at hl 1 rfl) ?_
    have h_5 : vp_in (nI i) 8 := by first | exact vp_in_nI (by omega) (by omega) | (unfold vp_in; decide) | (subst_vars; first | (unfold vp_in; decide) | exact vp_in_nI (by omega) (by omega))
    refine va_alda (r := ro i) hx hb hK hP 1 rfl h_5 (by rw [nI_clamp (by omega)]; exact (hgr.1 i (by omega)).1.1) dX9_give_17 ?_
    refine lv_iload_n hx hb dX9_give_18 rfl (lv_at hl 2 rfl) ?_
    refine lv_iload_n hx hb dX9_give_19 rfl (lv_at hl 3 rfl) ?_
    have h_6 : vp_in (nI j) 8 := by first | exact vp_in_nI (by omega) (by omega) | (unfold vp_in; decide) | (subst_vars; first | (unfold vp_in; decide) | exact vp_in_nI (by omega) (by omega))
    refine pl_iast hx hb hK hP hD hS ((hgr.1 i (by omega)).1.2) h_6 dX9_give_20 (fun H locs hP hD hS => ?_)
    obtain ⟨g_7, e_g_7⟩ : ∃ y : Nat → Nat → Int32, y = va_up g (ro i) (upd (g (ro i)) (nI j : Int32).toNatClampNeg (nI cn0)) := ⟨_, rfl⟩
    have hpd9 : PDx (dC, dI) classes A H (wp [oX9 h1 po pp ps pa pe pb pv pk pu pw pq pt un fw, cA aC po 8 fo] (va_pl L (plE aC g_7))) := by rw [e_g_7]; exact ⟨hP, hD⟩
    have hP := hpd9.1
    have hD := hpd9.2
    clear hpd9
    refine lv_aload_n hx hb dX9_give_21 rfl (lv_at hl 0 rfl) ?_
    refine va_get (D := (dC, dI)) (ci := 9) (v := Value.ref po) (C := RX9) (T := TX9) (N := 14) hx hb hts inX9 hown hK hP 0 rfl rfl 0 (by decide) (hts _ (gw kw_150 rfl)) (fun _ h9 => h9) rfl dX9_give_22 ?_
    refine lv_iload_n hx hb dX9_give_25 rfl (lv_at hl 1 rfl) ?_
    have h_8 : vp_in (nI i) 8 := by first | exact vp_in_nI (by omega) (by omega) | (unfold vp_in; decide) | (subst_vars; first | (unfold vp_in; decide) | exact vp_in_nI (by omega) (by omega))
    refine va_alda (r := ro i) hx hb hK hP 1 rfl h_8 (by rw [nI_clamp (by omega)]; exact (hgr.1 i (by omega)).1.1) dX9_give_26 ?_
    refine lv_iload_n hx hb dX9_give_27 rfl (lv_at hl 1 rfl) ?_
    refine lv_dup2_11 hx hb dX9_give_28 rfl rfl ?_
    have h_9 : vp_in (nI i) 8 := by first | exact vp_in_nI (by omega) (by omega) | (unfold vp_in; decide) | (subst_vars; first | (unfold vp_in; decide) | exact vp_in_nI (by omega) (by omega))
    refine pl_iald hx hb hK hP ((hgr.1 i (by omega)).1.2) h_9 dX9_give_29 ?_
    refine lv_topi (fun x_10 e_10 => ?_)
    have h9 : x_10 = nI (O i) := by rw [e_10, nI_clamp (by omega), e_g_7, nI_clamp (by omega), up_s, pk_un (by omega)]; exact hO i (by omega)
    subst h9
    refine lv_iload_n hx hb dX9_give_30 rfl (lv_at hl 3 rfl) ?_
    refine lv_isub hx hb dX9_give_31 ?_
    refine lv_topi (fun x_11 e_11 => ?_)
    have h9 : x_11 = nI (O i - cn0) := by rw [e_11]; exact pk_sub hle
    subst h9
    have h_12 : vp_in (nI i) 8 := by first | exact vp_in_nI (by omega) (by omega) | (unfold vp_in; decide) | (subst_vars; first | (unfold vp_in; decide) | exact vp_in_nI (by omega) (by omega))
    refine pl_iast hx hb hK hP hD hS ((hgr.1 i (by omega)).1.2) h_12 dX9_give_32 (fun H locs hP hD hS => ?_)
    obtain ⟨g_13, e_g_13⟩ : ∃ y : Nat → Nat → Int32, y = va_up g_7 (ro i) (upd (g_7 (ro i)) (nI i : Int32).toNatClampNeg (nI (O i - cn0))) := ⟨_, rfl⟩
    have hpd9 : PDx (dC, dI) classes A H (wp [oX9 h1 po pp ps pa pe pb pv pk pu pw pq pt un fw, cA aC po 8 fo] (va_pl L (plE aC g_13))) := by rw [e_g_13]; exact ⟨hP, hD⟩
    have hP := hpd9.1
    have hD := hpd9.2
    clear hpd9
    have hpd9 := pd_P (cx := [oX9 h1 po pp ps pa pe pb pv pk pu pw pq pt un fw, cA aC po 8 fo]) hP hD [0, 1] (by decide) rfl
    have hP9 := hpd9.1
    have hD9 := hpd9.2
    refine W.widen (k := 0) (n := 0) (by omega) (by omega) ?_
    exact W.vret hx hb hr (fun t ht hW => ⟨⟨(g_13), rfl, ⟨fun q hq => by rw [e_g_13, nI_clamp (by omega), up_s]; unfold gv; rw [if_pos hle]; by_cases e : q = i <;> first | (rw [e, pk_us, if_neg (by omega), if_pos rfl]; done) | (rw [pk_un e, e_g_7, nI_clamp (by omega), up_s]; by_cases e2 : q = j <;> first | (rw [e2, pk_us, if_pos rfl]; done) | (rw [pk_un e2, if_neg e2, if_neg e]; exact hO q hq)), fun a h => by rw [e_g_13, up_n h, e_g_7, up_n h]⟩, by rw [ht]; exact hP9, va_K.moved hW.alike hK, hD9⟩, hS.F ht⟩) hS.2.2 dX9_give_33

end

section
/-! 35.plans3 -/
theorem sE_suc {O : Nat → Nat} {i c j : Nat} (h : i < j) : sE O i c (j + 1 - (i + 1)) = gv (sE O i c (j - (i + 1))) i j c := by
  rw [show j + 1 - (i + 1) = (j - (i + 1)) + 1 by omega]
  show gv (sE O i c (j - (i + 1))) i (i + 1 + (j - (i + 1))) c = _
  rw [show i + 1 + (j - (i + 1)) = j by omega]
theorem sumr_suc {f : Nat → Nat} {a j : Nat} (h : a ≤ j) : sumr f a (j + 1 - a) = sumr f a (j - a) + f j := by
  rw [show j + 1 - a = (j - a) + 1 by omega]
  show sumr f a (j - a) + f (a + (j - a)) = _
  rw [show a + (j - a) = j by omega]
theorem yw_suc {W : Nat → Nat} {y : Int32} {a j : Nat} (h : a ≤ j) : yw W y a (j + 1 - a) = yw W y a (j - a) + (if bt y j = true then W j else 0) := sumr_suc h
theorem w_le {W : Nat → Nat} {a k n : Nat} (h : ∀ j, j < n → W j ≤ 9) (hk : a + k ≤ n) (hn : n ≤ 8) : sumr W a k ≤ 72 := by
  have := sumr_le (f := W) (a := a) (b := 9) (k := k) (fun j _ q => h j (by omega))
  omega
theorem yw_le {W : Nat → Nat} {y : Int32} {a k n : Nat} (h : ∀ j, j < n → W j ≤ 9) (hk : a + k ≤ n) (hn : n ≤ 8) : yw W y a k ≤ 72 := by
  have := sumr_le (f := fun j => if bt y j = true then W j else 0) (a := a) (b := 9) (k := k) (fun j _ q => by
    have := h j (by omega)
    split <;> omega)
  unfold yw
  omega
theorem max0_n {i : Nat} (h : i < 2 ^ 31) : (if (0 : Int32) < nI i then nI i else 0) = nI i := by
  rcases Nat.eq_zero_or_pos i with q | q
  · subst q; rfl
  · exact if_pos (nI_lt (a := 0) q h)
theorem vt_0 {y : Int32} {i : Nat} {n : Nat} {P O : Nat → Nat} (hi : i < 8) (hy : y = (1 : Int32) <<< (nI i &&& 31)) : ∀ b, b < 32 → bt y b = decide (b = i ∨ (i < b ∧ b < i + 1 ∧ P b ≤ O b)) := by
  intro b hb
  rw [hy, b_one i hi b hb]
  by_cases e : b = i
  · rw [decide_eq_true e, decide_eq_true (Or.inl e)]
  · rw [decide_eq_false e, decide_eq_false (fun q => q.elim e (fun q => by omega))]
theorem vt_y {x y : Int32} {i j : Nat} {P O : Nat → Nat} (hj : i < j ∧ j < 8) (hx : ∀ b, b < 32 → bt x b = decide (b = i ∨ (i < b ∧ b < j ∧ P b ≤ O b))) (hy : y = x ||| ((1 : Int32) <<< (nI j &&& 31))) (hP : P j ≤ O j) : ∀ b, b < 32 → bt y b = decide (b = i ∨ (i < b ∧ b < j + 1 ∧ P b ≤ O b)) := by
  intro b hb
  rw [hy, b_or, hx b hb, b_one j hj.2 b hb]
  by_cases e : b = j
  · subst e
    rw [decide_eq_true (p := b = b) rfl, Bool.or_true, decide_eq_true (Or.inr ⟨hj.1, by omega, hP⟩)]
  · rw [decide_eq_false (p := b = j) e, Bool.or_false]
    congr 1
    apply propext
    constructor
    · exact fun q => q.imp id (fun q => ⟨q.1, by omega, q.2.2⟩)
    · exact fun q => q.imp id (fun q => ⟨q.1, by omega, q.2.2⟩)
theorem vt_n {x : Int32} {i j : Nat} {P O : Nat → Nat} (hx : ∀ b, b < 32 → bt x b = decide (b = i ∨ (i < b ∧ b < j ∧ P b ≤ O b))) (hP : ¬ P j ≤ O j) : ∀ b, b < 32 → bt x b = decide (b = i ∨ (i < b ∧ b < j + 1 ∧ P b ≤ O b)) := by
  intro b hb
  rw [hx b hb]
  congr 1
  apply propext
  constructor
  · exact fun q => q.imp id (fun q => ⟨q.1, by omega, q.2.2⟩)
  · refine fun q => q.imp id (fun q => ⟨q.1, ?_, q.2.2⟩)
    rcases Nat.lt_or_ge b j with h | h
    · exact h
    · have e : b = j := by omega
      subst e
      exact absurd q.2.2 hP

set_option maxHeartbeats 1000000 in
set_option maxRecDepth 100000 in
/-- X9_figureOf -/
theorem c_X9_figureOf (l : Launch) (dC : Nat → ClassId) (dI : Nat → Nat → Nat) (aC : Nat → ClassId) (sz : Nat) (h1 : Nat) (po : Nat) (pp : Nat) (ps : Nat) (pa : Nat) (pe : Nat) (pb : Nat) (pv : Nat) (pk : Nat) (pu : Nat) (pw : Nat) (pq : Nat) (pt : Nat) (un : Int32) (fw : Int32) (ek : Nat) (ef : Nat) (ew : Nat) (ep : Nat) (es : Nat) (n : Nat) (sy : Int32) (dn : Int32) (ff : Nat → Int32) (i : Nat) (fi : Nat) (hi : i < 8) (hfi : ff i = nI fi) : Met l yX9_figureOf (wW yX9_figureOf cX9_figureOf 2 (some .int)) ({ frames := 0, cells := 0, slots := 0, locals := 0 } : Room) (va_Pc [Value.ref h1, Value.int (nI i)] (fun U => U.heap.size = sz ∧ va_P (dC, dI) classes [oX9 h1 po pp ps pa pe pb pv pk pu pw pq pt un fw, oX4 pv ek ef ew ep es (nI n) sy dn, cI aC ef 8 ff] U.heap ∧ va_K (dC, dI) classes (TY aC) U ∧ va_D (fun _ => True) [oX9 h1 po pp ps pa pe pb pv pk pu pw pq pt un fw, oX4 pv ek ef ew ep es (nI n) sy dn, cI aC ef 8 ff] ∧ NX U)) (va_Qi (fun (r : Int32) (_ : Unit) => r = nI fi) (fun (_ : Unit) (t : State) => va_P (dC, dI) classes [oX9 h1 po pp ps pa pe pb pv pk pu pw pq pt un fw, oX4 pv ek ef ew ep es (nI n) sy dn, cI aC ef 8 ff] t.heap ∧ va_K (dC, dI) classes (TY aC) t ∧ va_D (va_A [oX9 h1 po pp ps pa pe pb pv pk pu pw pq pt un fw, oX4 pv ek ef ew ep es (nI n) sy dn, cI aC ef 8 ff] sz) [oX9 h1 po pp ps pa pe pb pv pk pu pw pq pt un fw, oX4 pv ek ef ew ep es (nI n) sy dn, cI aC ef 8 ff]) (va_A [oX9 h1 po pp ps pa pe pb pv pk pu pw pq pt un fw, oX4 pv ek ef ew ep es (nI n) sy dn, cI aC ef 8 ff] sz)) 0 0 (va_A [oX9 h1 po pp ps pa pe pb pv pk pu pw pq pt un fw, oX4 pv ek ef ew ep es (nI n) sy dn, cI aC ef 8 ff] sz) := by
  refine Met.ofW (cc := cX9_figureOf) (maxL := 2) (ret := (some .int)) (by decide) rfl ?_
  intro p e s m args below meth c s₁ B hml hv
  obtain ⟨rfl, hsz, hP, hK, hD0, hN⟩ := hv
  have hx := B.exec
  have hb := B.bytes
  have hr := B.returns
  have hts0 := atoms_spec (ws := (wW yX9_figureOf cX9_figureOf 2 (some .int))) B.pre
  have hts : ∀ w9 ∈ lw_G, w9.before ([Value.ref h1, Value.int (nI i)] : List Value).toArray s = true := fun w9 h9 => hts0 w9 (List.mem_cons_of_mem _ h9)
  have hown : s.vm.findClass RX9 = some m.cls := findClass_of_methodNamed (x := yX9_figureOf) B.named
  have hlocks := B.notSynchronized
  subst hsz
  have hD := hD0.self (sz := s.heap.size)
  generalize hAe : va_A [oX9 h1 po pp ps pa pe pb pv pk pu pw pq pt un fw, oX4 pv ek ef ew ep es (nI n) sy dn, cI aC ef 8 ff] s.heap.size = A at hD ⊢
  have hA : ∀ q : Nat, s.heap.size ≤ q → A q := fun q h => by rw [← hAe]; exact Or.inr h
  obtain ⟨H, hHe⟩ : ∃ H : Heap, H = s.heap := ⟨_, rfl⟩
  have hS : va_S A s.heap H [] := by rw [hHe]; exact va_S.rf
  have hP : va_P (dC, dI) classes [oX9 h1 po pp ps pa pe pb pv pk pu pw pq pt un fw, oX4 pv ek ef ew ep es (nI n) sy dn, cI aC ef 8 ff] H := by rw [hHe]; exact hP
  have hl := lv_entry ([Value.ref h1, Value.int (nI i)]) (n := 2) (Nat.le_of_ble_eq_true rfl)
  rw [lg_entry_eq]
  generalize (lg_sl ([Value.ref h1, Value.int (nI i)]) ++ List.replicate (2 - (lg_sl ([Value.ref h1, Value.int (nI i)])).length) Slot.unset).toArray = ls at hl ⊢
  have hl : lv_has ls 2 [(0, Value.ref h1), (1, Value.int (nI i))] := hl
  rw [← hHe]
  refine lv_aload_n hx hb dX9_figureOf_0 rfl (lv_at hl 0 rfl) ?_
  refine va_get (D := (dC, dI)) (ci := 9) (v := Value.ref pv) (C := RX9) (T := TX9) (N := 14) hx hb hts inX9 hown hK hP 0 rfl rfl 6 (by decide) (hts _ (gw kw_162 rfl)) (fun _ h9 => h9) rfl dX9_figureOf_1 ?_
  refine va_get (D := (dC, dI)) (ci := 4) (v := Value.ref ef) (C := RX4) (T := TX4) (N := 8) hx hb hts inX4 hown hK hP 1 rfl rfl 1 (by decide) (hts _ (gw kw_36 rfl)) (fun _ h9 => h9) rfl dX9_figureOf_4 ?_
  refine lv_iload_n hx hb dX9_figureOf_7 rfl (lv_at hl 1 rfl) ?_
  have h_1 : vp_in (nI i) 8 := by first | exact vp_in_nI (by omega) (by omega) | (unfold vp_in; decide) | (subst_vars; first | (unfold vp_in; decide) | exact vp_in_nI (by omega) (by omega))
  refine va_iald hx hb hK hP 2 0 rfl rfl h_1 dX9_figureOf_8 ?_
  refine lv_topi (fun x_2 e_2 => ?_)
  have hpd9 := pd_N (cx := [oX9 h1 po pp ps pa pe pb pv pk pu pw pq pt un fw, oX4 pv ek ef ew ep es (nI n) sy dn, cI aC ef 8 ff]) hP hD [0, 1, 2] (by decide) rfl
  have hP9 := hpd9.1
  have hD9 := hpd9.2
  refine W.widen (k := 0) (n := 0) (by omega) (by omega) ?_
  exact W.iret (v := x_2) hx hb hr (fun t ht hW => ⟨⟨x_2, (), rfl, by rw [e_2, nI_clamp (by omega)]; exact hfi, by rw [ht]; exact hP9, va_K.moved hW.alike hK, hD9⟩, hS.F ht⟩) hS.2.2 dX9_figureOf_9

set_option maxHeartbeats 1000000 in
set_option maxRecDepth 100000 in
/-- X9_spreadFromEldest -/
theorem c_X9_spreadFromEldest (l : Launch) (dC : Nat → ClassId) (dI : Nat → Nat → Nat) (aC : Nat → ClassId) (sz : Nat) (h1 : Nat) (po : Nat) (pp : Nat) (ps : Nat) (pa : Nat) (pe : Nat) (pb : Nat) (pv : Nat) (pk : Nat) (pu : Nat) (pw : Nat) (pq : Nat) (pt : Nat) (un : Int32) (fw : Int32) (ek : Nat) (ef : Nat) (ew : Nat) (ep : Nat) (es : Nat) (n : Nat) (sy : Int32) (dn : Int32) (L : List Nat) (g : Nat → Nat → Int32) (fo : Nat → Option Nat) (fp : Nat → Option Nat) (fs : Nat → Option Nat) (ro : Nat → Nat) (rp : Nat → Nat) (rs : Nat → Nat) (i : Nat) (cf : Nat) (O : Nat → Nat) (hgr : GRD L fo fp fs ro rp rs) (hi : i < n ∧ n ≤ 8) (hc : cf ≤ 99) (hO : ∀ q, q < 8 → g (ro i) q = nI (O q)) (hO9 : ∀ q, O q ≤ 99) : Met l yX9_spreadFromEldest (wW yX9_spreadFromEldest cX9_spreadFromEldest 4 (none : Option FieldType)) ({ frames := 1, cells := 0, slots := 0, locals := 23 } : Room) (va_Pc [Value.ref h1, Value.int (nI i), Value.int (nI cf)] (fun U => U.heap.size = sz ∧ va_P (dC, dI) classes (wp [oX9 h1 po pp ps pa pe pb pv pk pu pw pq pt un fw, oX4 pv ek ef ew ep es (nI n) sy dn, cA aC po 8 fo] (va_pl L (plE aC g))) U.heap ∧ va_K (dC, dI) classes (TY aC) U ∧ va_D (fun _ => True) (wp [oX9 h1 po pp ps pa pe pb pv pk pu pw pq pt un fw, oX4 pv ek ef ew ep es (nI n) sy dn, cA aC po 8 fo] (va_pl L (plE aC g))) ∧ NX U)) (va_Qv (fun (g2 : Nat → Nat → Int32) => (∀ q, q < 8 → g2 (ro i) q = nI (sE O i cf (n - 1 - i) q)) ∧ ∀ a, a ≠ ro i → g2 a = g a) (fun (g2 : Nat → Nat → Int32) (t : State) => va_P (dC, dI) classes (wp [oX9 h1 po pp ps pa pe pb pv pk pu pw pq pt un fw, oX4 pv ek ef ew ep es (nI n) sy dn, cA aC po 8 fo] (va_pl L (plE aC g2))) t.heap ∧ va_K (dC, dI) classes (TY aC) t ∧ va_D (va_A (wp [oX9 h1 po pp ps pa pe pb pv pk pu pw pq pt un fw, oX4 pv ek ef ew ep es (nI n) sy dn, cA aC po 8 fo] (va_pl L (plE aC g))) sz) (wp [oX9 h1 po pp ps pa pe pb pv pk pu pw pq pt un fw, oX4 pv ek ef ew ep es (nI n) sy dn, cA aC po 8 fo] (va_pl L (plE aC g2)))) (va_A (wp [oX9 h1 po pp ps pa pe pb pv pk pu pw pq pt un fw, oX4 pv ek ef ew ep es (nI n) sy dn, cA aC po 8 fo] (va_pl L (plE aC g))) sz)) 0 0 (va_A (wp [oX9 h1 po pp ps pa pe pb pv pk pu pw pq pt un fw, oX4 pv ek ef ew ep es (nI n) sy dn, cA aC po 8 fo] (va_pl L (plE aC g))) sz) := by
  refine Met.ofW (cc := cX9_spreadFromEldest) (maxL := 4) (ret := (none : Option FieldType)) (by decide) rfl ?_
  intro p e s m args below meth c s₁ B hml hv
  obtain ⟨rfl, hsz, hP, hK, hD0, hN⟩ := hv
  have hx := B.exec
  have hb := B.bytes
  have hr := B.returns
  have hts0 := atoms_spec (ws := (wW yX9_spreadFromEldest cX9_spreadFromEldest 4 (none : Option FieldType))) B.pre
  have hts : ∀ w9 ∈ lw_G, w9.before ([Value.ref h1, Value.int (nI i), Value.int (nI cf)] : List Value).toArray s = true := fun w9 h9 => hts0 w9 (List.mem_cons_of_mem _ h9)
  have hown : s.vm.findClass RX9 = some m.cls := findClass_of_methodNamed (x := yX9_spreadFromEldest) B.named
  have hlocks := B.notSynchronized
  subst hsz
  have hD := hD0.self (sz := s.heap.size)
  generalize hAe : va_A (wp [oX9 h1 po pp ps pa pe pb pv pk pu pw pq pt un fw, oX4 pv ek ef ew ep es (nI n) sy dn, cA aC po 8 fo] (va_pl L (plE aC g))) s.heap.size = A at hD ⊢
  have hA : ∀ q : Nat, s.heap.size ≤ q → A q := fun q h => by rw [← hAe]; exact Or.inr h
  obtain ⟨H, hHe⟩ : ∃ H : Heap, H = s.heap := ⟨_, rfl⟩
  have hS : va_S A s.heap H [] := by rw [hHe]; exact va_S.rf
  have hP : va_P (dC, dI) classes (wp [oX9 h1 po pp ps pa pe pb pv pk pu pw pq pt un fw, oX4 pv ek ef ew ep es (nI n) sy dn, cA aC po 8 fo] (va_pl L (plE aC g))) H := by rw [hHe]; exact hP
  have hl := lv_entry ([Value.ref h1, Value.int (nI i), Value.int (nI cf)]) (n := 4) (Nat.le_of_ble_eq_true rfl)
  rw [lg_entry_eq]
  generalize (lg_sl ([Value.ref h1, Value.int (nI i), Value.int (nI cf)]) ++ List.replicate (4 - (lg_sl ([Value.ref h1, Value.int (nI i), Value.int (nI cf)])).length) Slot.unset).toArray = ls at hl ⊢
  have hl : lv_has ls 4 [(0, Value.ref h1), (1, Value.int (nI i)), (2, Value.int (nI cf))] := hl
  rw [← hHe]
  refine lv_iload_n hx hb dX9_spreadFromEldest_0 rfl (lv_at hl 1 rfl) ?_
  refine lv_iconst (v := 1) hx hb dX9_spreadFromEldest_1 (by decide) ?_
  refine lv_iadd hx hb dX9_spreadFromEldest_2 ?_
  refine lv_topi (fun x_1 e_1 => ?_)
  refine lv_istore_n (lv' := [(3, Value.int x_1), (0, Value.ref h1), (1, Value.int (nI i)), (2, Value.int (nI cf))]) hx hb dX9_spreadFromEldest_3 rfl hl (by decide) rfl (fun ls hl => ?_)
  have h9 : x_1 = nI (i + 1) := by rw [e_1, nI_1]
  subst h9
  have lp_4 : ∀ (fu : Nat) (j : Nat) (gc : Nat → Nat → Int32) (hfu : n - j < fu) (hj : i < j ∧ j ≤ n) (hg1 : ∀ q, q < 8 → gc (ro i) q = nI (sE O i cf (j - (i + 1)) q)) (hg2 : ∀ a, a ≠ ro i → gc a = g a) (H : Heap) (locs : List Loc) (ls : Array Slot), va_P (dC, dI) classes (wp [oX9 h1 po pp ps pa pe pb pv pk pu pw pq pt un fw, oX4 pv ek ef ew ep es (nI n) sy dn, cA aC po 8 fo] (va_pl L (plE aC gc))) H → va_D A (wp [oX9 h1 po pp ps pa pe pb pv pk pu pw pq pt un fw, oX4 pv ek ef ew ep es (nI n) sy dn, cA aC po 8 fo] (va_pl L (plE aC gc))) → va_S A s.heap H locs → lv_has ls 4 [(0, Value.ref h1), (1, Value.int (nI i)), (2, Value.int (nI cf)), (3, Value.int (nI j))] → W p l e (headSpec (wW yX9_spreadFromEldest cX9_spreadFromEldest 4 (none : Option FieldType)) ({ frames := 1, cells := 0, slots := 0, locals := 23 } : Room)).room s m ([Value.ref h1, Value.int (nI i), Value.int (nI cf)] : List Value).toArray below meth c H locs 0 0 (MQ below (va_Qv (fun (g2 : Nat → Nat → Int32) => (∀ q, q < 8 → g2 (ro i) q = nI (sE O i cf (n - 1 - i) q)) ∧ ∀ a, a ≠ ro i → g2 a = g a) (fun (g2 : Nat → Nat → Int32) (t : State) => va_P (dC, dI) classes (wp [oX9 h1 po pp ps pa pe pb pv pk pu pw pq pt un fw, oX4 pv ek ef ew ep es (nI n) sy dn, cA aC po 8 fo] (va_pl L (plE aC g2))) t.heap ∧ va_K (dC, dI) classes (TY aC) t ∧ va_D A (wp [oX9 h1 po pp ps pa pe pb pv pk pu pw pq pt un fw, oX4 pv ek ef ew ep es (nI n) sy dn, cA aC po 8 fo] (va_pl L (plE aC g2)))) A) ([Value.ref h1, Value.int (nI i), Value.int (nI cf)] : List Value).toArray s 0 0 A) (F0 m 4 ls []) := by
    intro fu
    induction fu with
    | zero => intro j gc hfu; exact absurd hfu (Nat.not_lt_zero _)
    | succ fu ih_4 =>
      intro j gc hfu hj hg1 hg2 H locs ls hP hD hS hl
      refine lv_iload_n hx hb dX9_spreadFromEldest_4 rfl (lv_at hl 3 rfl) ?_
      refine lv_aload_n hx hb dX9_spreadFromEldest_5 rfl (lv_at hl 0 rfl) ?_
      refine va_get (D := (dC, dI)) (ci := 9) (v := Value.ref pv) (C := RX9) (T := TX9) (N := 14) hx hb hts inX9 hown hK hP 0 rfl rfl 6 (by decide) (hts _ (gw kw_162 rfl)) (fun _ h9 => h9) rfl dX9_spreadFromEldest_6 ?_
      refine va_get (D := (dC, dI)) (ci := 4) (v := Value.int (nI n)) (C := RX4) (T := TX4) (N := 8) hx hb hts inX4 hown hK hP 1 rfl rfl 5 (by decide) (hts _ (gw kw_47 rfl)) (fun _ h9 => h9) rfl dX9_spreadFromEldest_9 ?_
      refine lv_icmp_ge (tgt := 28) hx hb dX9_spreadFromEldest_12 (by decide) (fun c_2 => ?_) (fun c_2 => ?_)
      · have hjn : j = n := by
          rcases Nat.lt_or_ge j n with q | q
          · exact absurd c_2 (nI_ge q (by omega))
          · omega
        have hpd9 := pd_P (cx := [oX9 h1 po pp ps pa pe pb pv pk pu pw pq pt un fw, oX4 pv ek ef ew ep es (nI n) sy dn, cA aC po 8 fo]) hP hD [0, 1, 2] (by decide) rfl
        have hP9 := hpd9.1
        have hD9 := hpd9.2
        refine W.widen (k := 0) (n := 0) (by omega) (by omega) ?_
        exact W.vret hx hb hr (fun t ht hW => ⟨⟨(gc), rfl, ⟨fun q hq => by rw [hg1 q hq, hjn, show n - (i + 1) = n - 1 - i by omega], hg2⟩, by rw [ht]; exact hP9, va_K.moved hW.alike hK, hD9⟩, hS.F ht⟩) hS.2.2 dX9_spreadFromEldest_28
      · have hlt : j < n := by
          rcases Nat.lt_or_ge j n with q | q
          · exact q
          · exact absurd (nI_le q (by omega)) c_2
        refine lv_aload_n hx hb dX9_spreadFromEldest_15 rfl (lv_at hl 0 rfl) ?_
        refine lv_iload_n hx hb dX9_spreadFromEldest_16 rfl (lv_at hl 1 rfl) ?_
        refine lv_iload_n hx hb dX9_spreadFromEldest_17 rfl (lv_at hl 3 rfl) ?_
        refine lv_iload_n hx hb dX9_spreadFromEldest_18 rfl (lv_at hl 2 rfl) ?_
        have hpd9 := pdf_P (cx := [oX9 h1 po pp ps pa pe pb pv pk pu pw pq pt un fw, cA aC po 8 fo]) hP hD hS hA [0, 2] (by decide) rfl
        have hPc := hpd9.1
        have hDc := hpd9.2.1
        have hFc := hpd9.2.2
        clear hpd9
        refine va_callv (va_runV (As := [Value.int (nI i), Value.int (nI j), Value.int (nI cf)]) (rest := []) ⟨hx, hb, hml, hown, hts⟩ (c_X9_give l dC dI aC H.size h1 po pp ps pa pe pb pv pk pu pw pq pt un fw L gc fo fp fs ro rp rs i j cf (sE O i cf (j - (i + 1))) (hgr) (by omega) (hc) (hg1) (sE_le hc hO9 _)) ⟨(callB_of 3 hts (gG kw_416) rfl rfl rfl (hts _ (gw kw_11 rfl)) (hts _ (gw kw_413 rfl)) hd_X9_give ⟨Nat.le_of_ble_eq_true rfl, Nat.le_of_ble_eq_true rfl⟩), (hts _ (gw kw_415 rfl)), (hts _ (gw ks_10 rfl))⟩ ⟨fb_std, va_recv (q := (RX9, TX9, 14)) hK hPc (ci := 9) (q0 := 0) rfl rfl, pre_std hPc hK hDc hN⟩ rfl rfl hl.1 rfl (lv_room (Nat.le_of_ble_eq_true rfl)) dX9_spreadFromEldest_19 ⟨Nat.le_of_ble_eq_true rfl, Nat.le_of_ble_eq_true rfl⟩) hS (fun q _ h => hFc q h) hFc (fun u9 t9 H1 locs ht hvm hw_3 hB hz1 hk1 hS => ?_)
        obtain ⟨u_4, rfl⟩ : ∃ z, z = u9 := ⟨_, rfl⟩
        obtain ⟨hP1, hK1, hD1⟩ := hB
        rw [ht] at hP1
        clear hK1
        try dsimp only at hw_3
        have hpd9 : PDx (dC, dI) classes A H1 (wp [oX4 pv ek ef ew ep es (nI n) sy dn, oX9 h1 po pp ps pa pe pb pv pk pu pw pq pt un fw, cA aC po 8 fo] (va_pl L (plE aC u_4))) := jn_P (wr := [oX4 pv ek ef ew ep es (nI n) sy dn]) hFc hk1 hP1 hD1 hP hD [0, 2] [1] rfl rfl (by decide) (by decide)
        have hP := hpd9.1
        have hD := hpd9.2
        clear hpd9
        generalize H1 = H at hP hS ⊢
        clear hPc hDc hFc hz1 hk1 hP1 hD1 ht hvm
        obtain ⟨hv1, hv2⟩ := hw_3
        obtain ⟨x_5, e_5⟩ : ∃ y : Int32, y = (nI j) + 1 := ⟨_, rfl⟩
        refine lv_iinc (v := x_5) (lv' := [(3, Value.int x_5), (0, Value.ref h1), (1, Value.int (nI i)), (2, Value.int (nI cf))]) hx hb dX9_spreadFromEldest_22 hl (k := 3) rfl (by rw [e_5]; rfl) (by decide) rfl (fun ls hl => ?_)
        have h9 : x_5 = nI (j + 1) := by rw [e_5, nI_1]
        subst h9
        refine lv_goto (tgt := 4) hx hb dX9_spreadFromEldest_25 (by decide) ?_
        exact ih_4 (j + 1) u_4 (ms_lt hlt hfu) (by omega) (fun q hq => by rw [hv1 q hq, sE_suc hj.1]) (fun a h => (hv2 a h).trans (hg2 a h)) _ _ _ (plP hP [1, 0, 2] rfl) (plD hD [1, 0, 2] (by decide) rfl) hS (lv_sub hl [1, 2, 3, 0] rfl)
  exact lp_4 ((n - (i + 1)) + 1) (i + 1) g (Nat.lt_succ_self _) (by omega) (fun q hq => by rw [Nat.sub_self]; exact hO q hq) (fun a _ => rfl) _ _ _ (plP hP [0, 1, 2] rfl) (plD hD [0, 1, 2] (by decide) rfl) hS (lv_sub hl [1, 2, 3, 0] rfl)

set_option maxHeartbeats 1000000 in
set_option maxRecDepth 100000 in
/-- X9_shareFairly -/
theorem c_X9_shareFairly (l : Launch) (dC : Nat → ClassId) (dI : Nat → Nat → Nat) (aC : Nat → ClassId) (sz : Nat) (h1 : Nat) (po : Nat) (pp : Nat) (ps : Nat) (pa : Nat) (pe : Nat) (pb : Nat) (pv : Nat) (pk : Nat) (pu : Nat) (pw : Nat) (pq : Nat) (pt : Nat) (un : Int32) (fw : Int32) (ek : Nat) (ef : Nat) (ew : Nat) (ep : Nat) (es : Nat) (n : Nat) (sy : Int32) (dn : Int32) (stf : Nat → Int32) (L : List Nat) (g : Nat → Nat → Int32) (fo : Nat → Option Nat) (fp : Nat → Option Nat) (fs : Nat → Option Nat) (ro : Nat → Nat) (rp : Nat → Nat) (rs : Nat → Nat) (i : Nat) (cq : Nat) (O : Nat → Nat) (hgr : GRD L fo fp fs ro rp rs) (hi : i < n ∧ n ≤ 8) (hcq : stf 0 = nI cq) (hcq9 : cq ≤ 99) (hO : ∀ q, q < 8 → g (ro i) q = nI (O q)) (hO9 : ∀ q, O q ≤ 99) : Met l yX9_shareFairly (wW yX9_shareFairly cX9_shareFairly 5 (none : Option FieldType)) ({ frames := 1, cells := 0, slots := 0, locals := 23 } : Room) (va_Pc [Value.ref h1, Value.int (nI i)] (fun U => U.heap.size = sz ∧ va_P (dC, dI) classes (wp [oX9 h1 po pp ps pa pe pb pv pk pu pw pq pt un fw, oX4 pv ek ef ew ep es (nI n) sy dn, cI aC es 5 stf, cA aC po 8 fo] (va_pl L (plE aC g))) U.heap ∧ va_K (dC, dI) classes (TY aC) U ∧ va_D (fun _ => True) (wp [oX9 h1 po pp ps pa pe pb pv pk pu pw pq pt un fw, oX4 pv ek ef ew ep es (nI n) sy dn, cI aC es 5 stf, cA aC po 8 fo] (va_pl L (plE aC g))) ∧ NX U)) (va_Qv (fun (g2 : Nat → Nat → Int32) => (∀ q, q < 8 → g2 (ro i) q = nI (sE O i (cq / (n - i)) (n - 1 - i) q)) ∧ ∀ a, a ≠ ro i → g2 a = g a) (fun (g2 : Nat → Nat → Int32) (t : State) => va_P (dC, dI) classes (wp [oX9 h1 po pp ps pa pe pb pv pk pu pw pq pt un fw, oX4 pv ek ef ew ep es (nI n) sy dn, cI aC es 5 stf, cA aC po 8 fo] (va_pl L (plE aC g2))) t.heap ∧ va_K (dC, dI) classes (TY aC) t ∧ va_D (va_A (wp [oX9 h1 po pp ps pa pe pb pv pk pu pw pq pt un fw, oX4 pv ek ef ew ep es (nI n) sy dn, cI aC es 5 stf, cA aC po 8 fo] (va_pl L (plE aC g))) sz) (wp [oX9 h1 po pp ps pa pe pb pv pk pu pw pq pt un fw, oX4 pv ek ef ew ep es (nI n) sy dn, cI aC es 5 stf, cA aC po 8 fo] (va_pl L (plE aC g2)))) (va_A (wp [oX9 h1 po pp ps pa pe pb pv pk pu pw pq pt un fw, oX4 pv ek ef ew ep es (nI n) sy dn, cI aC es 5 stf, cA aC po 8 fo] (va_pl L (plE aC g))) sz)) 0 0 (va_A (wp [oX9 h1 po pp ps pa pe pb pv pk pu pw pq pt un fw, oX4 pv ek ef ew ep es (nI n) sy dn, cI aC es 5 stf, cA aC po 8 fo] (va_pl L (plE aC g))) sz) := by
  refine Met.ofW (cc := cX9_shareFairly) (maxL := 5) (ret := (none : Option FieldType)) (by decide) rfl ?_
  intro p e s m args below meth c s₁ B hml hv
  obtain ⟨rfl, hsz, hP, hK, hD0, hN⟩ := hv
  have hx := B.exec
  have hb := B.bytes
  have hr := B.returns
  have hts0 := atoms_spec (ws := (wW yX9_shareFairly cX9_shareFairly 5 (none : Option FieldType))) B.pre
  have hts : ∀ w9 ∈ lw_G, w9.before ([Value.ref h1, Value.int (nI i)] : List Value).toArray s = true := fun w9 h9 => hts0 w9 (List.mem_cons_of_mem _ h9)
  have hown : s.vm.findClass RX9 = some m.cls := findClass_of_methodNamed (x := yX9_shareFairly) B.named
  have hlocks := B.notSynchronized
  subst hsz
  have hD := hD0.self (sz := s.heap.size)
  generalize hAe : va_A (wp [oX9 h1 po pp ps pa pe pb pv pk pu pw pq pt un fw, oX4 pv ek ef ew ep es (nI n) sy dn, cI aC es 5 stf, cA aC po 8 fo] (va_pl L (plE aC g))) s.heap.size = A at hD ⊢
  have hA : ∀ q : Nat, s.heap.size ≤ q → A q := fun q h => by rw [← hAe]; exact Or.inr h
  obtain ⟨H, hHe⟩ : ∃ H : Heap, H = s.heap := ⟨_, rfl⟩
  have hS : va_S A s.heap H [] := by rw [hHe]; exact va_S.rf
  have hP : va_P (dC, dI) classes (wp [oX9 h1 po pp ps pa pe pb pv pk pu pw pq pt un fw, oX4 pv ek ef ew ep es (nI n) sy dn, cI aC es 5 stf, cA aC po 8 fo] (va_pl L (plE aC g))) H := by rw [hHe]; exact hP
  have hl := lv_entry ([Value.ref h1, Value.int (nI i)]) (n := 5) (Nat.le_of_ble_eq_true rfl)
  rw [lg_entry_eq]
  generalize (lg_sl ([Value.ref h1, Value.int (nI i)]) ++ List.replicate (5 - (lg_sl ([Value.ref h1, Value.int (nI i)])).length) Slot.unset).toArray = ls at hl ⊢
  have hl : lv_has ls 5 [(0, Value.ref h1), (1, Value.int (nI i))] := hl
  rw [← hHe]
  have hc : cq / (n - i) ≤ 99 := Nat.le_trans (Nat.div_le_self _ _) hcq9
  refine lv_aload_n hx hb dX9_shareFairly_0 rfl (lv_at hl 0 rfl) ?_
  refine va_get (D := (dC, dI)) (ci := 9) (v := Value.ref pv) (C := RX9) (T := TX9) (N := 14) hx hb hts inX9 hown hK hP 0 rfl rfl 6 (by decide) (hts _ (gw kw_162 rfl)) (fun _ h9 => h9) rfl dX9_shareFairly_1 ?_
  refine va_get (D := (dC, dI)) (ci := 4) (v := Value.int (nI n)) (C := RX4) (T := TX4) (N := 8) hx hb hts inX4 hown hK hP 1 rfl rfl 5 (by decide) (hts _ (gw kw_47 rfl)) (fun _ h9 => h9) rfl dX9_shareFairly_4 ?_
  refine lv_iload_n hx hb dX9_shareFairly_7 rfl (lv_at hl 1 rfl) ?_
  refine lv_isub hx hb dX9_shareFairly_8 ?_
  refine lv_topi (fun x_1 e_1 => ?_)
  have h9 : x_1 = nI (n - i) := by rw [e_1]; exact pk_sub (by omega)
  subst h9
  refine lv_istore_n (lv' := [(2, Value.int (nI (n - i))), (0, Value.ref h1), (1, Value.int (nI i))]) hx hb dX9_shareFairly_9 rfl hl (by decide) rfl (fun ls hl => ?_)
  refine lv_iload_n hx hb dX9_shareFairly_10 rfl (lv_at hl 0 rfl) ?_
  refine lv_if_gt (tgt := 15) hx hb dX9_shareFairly_11 (by decide) (fun c_2 => ?_) (fun c_2 => ?_)
  · refine lv_aload_n hx hb dX9_shareFairly_15 rfl (lv_at hl 1 rfl) ?_
    refine va_get (D := (dC, dI)) (ci := 9) (v := Value.ref pv) (C := RX9) (T := TX9) (N := 14) hx hb hts inX9 hown hK hP 0 rfl rfl 6 (by decide) (hts _ (gw kw_162 rfl)) (fun _ h9 => h9) rfl dX9_shareFairly_16 ?_
    refine va_get (D := (dC, dI)) (ci := 4) (v := Value.ref es) (C := RX4) (T := TX4) (N := 8) hx hb hts inX4 hown hK hP 1 rfl rfl 4 (by decide) (hts _ (gw kw_44 rfl)) (fun _ h9 => h9) rfl dX9_shareFairly_19 ?_
    refine lv_iconst (v := 0) hx hb dX9_shareFairly_22 (by decide) ?_
    have h_3 : vp_in 0 5 := by first | exact vp_in_nI (by omega) (by omega) | (unfold vp_in; decide) | (subst_vars; first | (unfold vp_in; decide) | exact vp_in_nI (by omega) (by omega))
    refine va_iald hx hb hK hP 2 0 rfl rfl h_3 dX9_shareFairly_23 ?_
    refine lv_topi (fun x_4 e_4 => ?_)
    have h9 : x_4 = nI cq := by rw [e_4]; exact hcq
    subst h9
    refine lv_iload_n hx hb dX9_shareFairly_24 rfl (lv_at hl 0 rfl) ?_
    refine lv_idiv hx hb dX9_shareFairly_25 (nI_ne0 (by omega) (by omega)) ?_
    refine lv_topi (fun x_5 e_5 => ?_)
    have h9 : x_5 = nI (cq / (n - i)) := by rw [e_5]; exact pk_div (by omega) (by omega) (by omega)
    subst h9
    refine lv_istore_n (lv' := [(3, Value.int (nI (cq / (n - i)))), (2, Value.int (nI (n - i))), (0, Value.ref h1), (1, Value.int (nI i))]) hx hb dX9_shareFairly_26 rfl hl (by decide) rfl (fun ls hl => ?_)
    refine lv_iload_n hx hb dX9_shareFairly_27 rfl (lv_at hl 3 rfl) ?_
    refine lv_iconst (v := 1) hx hb dX9_shareFairly_28 (by decide) ?_
    refine lv_iadd hx hb dX9_shareFairly_29 ?_
    refine lv_topi (fun x_6 e_6 => ?_)
    refine lv_istore (lv' := [(4, Value.int x_6), (3, Value.int (nI (cq / (n - i)))), (2, Value.int (nI (n - i))), (0, Value.ref h1), (1, Value.int (nI i))]) hx hb dX9_shareFairly_30 hl (by decide) rfl (fun ls hl => ?_)
    have h9 : x_6 = nI (i + 1) := by rw [e_6, nI_1]
    subst h9
    have lp_32 : ∀ (fu : Nat) (j : Nat) (gc : Nat → Nat → Int32) (hfu : n - j < fu) (hj : i < j ∧ j ≤ n) (hg1 : ∀ q, q < 8 → gc (ro i) q = nI (sE O i (cq / (n - i)) (j - (i + 1)) q)) (hg2 : ∀ a, a ≠ ro i → gc a = g a) (H : Heap) (locs : List Loc) (ls : Array Slot), va_P (dC, dI) classes (wp [oX9 h1 po pp ps pa pe pb pv pk pu pw pq pt un fw, oX4 pv ek ef ew ep es (nI n) sy dn, cI aC es 5 stf, cA aC po 8 fo] (va_pl L (plE aC gc))) H → va_D A (wp [oX9 h1 po pp ps pa pe pb pv pk pu pw pq pt un fw, oX4 pv ek ef ew ep es (nI n) sy dn, cI aC es 5 stf, cA aC po 8 fo] (va_pl L (plE aC gc))) → va_S A s.heap H locs → lv_has ls 5 [(0, Value.ref h1), (1, Value.int (nI i)), (3, Value.int (nI (cq / (n - i)))), (4, Value.int (nI j))] → W p l e (headSpec (wW yX9_shareFairly cX9_shareFairly 5 (none : Option FieldType)) ({ frames := 1, cells := 0, slots := 0, locals := 23 } : Room)).room s m ([Value.ref h1, Value.int (nI i)] : List Value).toArray below meth c H locs 0 0 (MQ below (va_Qv (fun (g2 : Nat → Nat → Int32) => (∀ q, q < 8 → g2 (ro i) q = nI (sE O i (cq / (n - i)) (n - 1 - i) q)) ∧ ∀ a, a ≠ ro i → g2 a = g a) (fun (g2 : Nat → Nat → Int32) (t : State) => va_P (dC, dI) classes (wp [oX9 h1 po pp ps pa pe pb pv pk pu pw pq pt un fw, oX4 pv ek ef ew ep es (nI n) sy dn, cI aC es 5 stf, cA aC po 8 fo] (va_pl L (plE aC g2))) t.heap ∧ va_K (dC, dI) classes (TY aC) t ∧ va_D A (wp [oX9 h1 po pp ps pa pe pb pv pk pu pw pq pt un fw, oX4 pv ek ef ew ep es (nI n) sy dn, cI aC es 5 stf, cA aC po 8 fo] (va_pl L (plE aC g2)))) A) ([Value.ref h1, Value.int (nI i)] : List Value).toArray s 0 0 A) (F0 m 32 ls []) := by
      intro fu
      induction fu with
      | zero => intro j gc hfu; exact absurd hfu (Nat.not_lt_zero _)
      | succ fu ih_32 =>
        intro j gc hfu hj hg1 hg2 H locs ls hP hD hS hl
        refine lv_iload hx hb dX9_shareFairly_32 (lv_at hl 3 rfl) ?_
        refine lv_aload_n hx hb dX9_shareFairly_34 rfl (lv_at hl 0 rfl) ?_
        refine va_get (D := (dC, dI)) (ci := 9) (v := Value.ref pv) (C := RX9) (T := TX9) (N := 14) hx hb hts inX9 hown hK hP 0 rfl rfl 6 (by decide) (hts _ (gw kw_162 rfl)) (fun _ h9 => h9) rfl dX9_shareFairly_35 ?_
        refine va_get (D := (dC, dI)) (ci := 4) (v := Value.int (nI n)) (C := RX4) (T := TX4) (N := 8) hx hb hts inX4 hown hK hP 1 rfl rfl 5 (by decide) (hts _ (gw kw_47 rfl)) (fun _ h9 => h9) rfl dX9_shareFairly_38 ?_
        refine lv_icmp_ge (tgt := 58) hx hb dX9_shareFairly_41 (by decide) (fun c_7 => ?_) (fun c_7 => ?_)
        · have hjn : j = n := by
            rcases Nat.lt_or_ge j n with q | q
            · exact absurd c_7 (nI_ge q (by omega))
            · omega
          have hpd9 := pd_P (cx := [oX9 h1 po pp ps pa pe pb pv pk pu pw pq pt un fw, oX4 pv ek ef ew ep es (nI n) sy dn, cI aC es 5 stf, cA aC po 8 fo]) hP hD [0, 1, 2, 3] (by decide) rfl
          have hP9 := hpd9.1
          have hD9 := hpd9.2
          refine W.widen (k := 0) (n := 0) (by omega) (by omega) ?_
          exact W.vret hx hb hr (fun t ht hW => ⟨⟨(gc), rfl, ⟨fun q hq => by rw [hg1 q hq, hjn, show n - (i + 1) = n - 1 - i by omega], hg2⟩, by rw [ht]; exact hP9, va_K.moved hW.alike hK, hD9⟩, hS.F ht⟩) hS.2.2 dX9_shareFairly_58
        · have hlt : j < n := by
            rcases Nat.lt_or_ge j n with q | q
            · exact q
            · exact absurd (nI_le q (by omega)) c_7
          refine lv_aload_n hx hb dX9_shareFairly_44 rfl (lv_at hl 0 rfl) ?_
          refine lv_iload_n hx hb dX9_shareFairly_45 rfl (lv_at hl 1 rfl) ?_
          refine lv_iload hx hb dX9_shareFairly_46 (lv_at hl 3 rfl) ?_
          refine lv_iload_n hx hb dX9_shareFairly_48 rfl (lv_at hl 2 rfl) ?_
          have hpd9 := pdf_P (cx := [oX9 h1 po pp ps pa pe pb pv pk pu pw pq pt un fw, cA aC po 8 fo]) hP hD hS hA [0, 3] (by decide) rfl
          have hPc := hpd9.1
          have hDc := hpd9.2.1
          have hFc := hpd9.2.2
          clear hpd9
          refine va_callv (va_runV (As := [Value.int (nI i), Value.int (nI j), Value.int (nI (cq / (n - i)))]) (rest := []) ⟨hx, hb, hml, hown, hts⟩ (c_X9_give l dC dI aC H.size h1 po pp ps pa pe pb pv pk pu pw pq pt un fw L gc fo fp fs ro rp rs i j (cq / (n - i)) (sE O i (cq / (n - i)) (j - (i + 1))) (hgr) (by omega) (hc) (hg1) (sE_le hc hO9 _)) ⟨(callB_of 3 hts (gG kw_416) rfl rfl rfl (hts _ (gw kw_11 rfl)) (hts _ (gw kw_413 rfl)) hd_X9_give ⟨Nat.le_of_ble_eq_true rfl, Nat.le_of_ble_eq_true rfl⟩), (hts _ (gw kw_415 rfl)), (hts _ (gw ks_10 rfl))⟩ ⟨fb_std, va_recv (q := (RX9, TX9, 14)) hK hPc (ci := 9) (q0 := 0) rfl rfl, pre_std hPc hK hDc hN⟩ rfl rfl hl.1 rfl (lv_room (Nat.le_of_ble_eq_true rfl)) dX9_shareFairly_49 ⟨Nat.le_of_ble_eq_true rfl, Nat.le_of_ble_eq_true rfl⟩) hS (fun q _ h => hFc q h) hFc (fun u9 t9 H1 locs ht hvm hw_8 hB hz1 hk1 hS => ?_)
          obtain ⟨u_9, rfl⟩ : ∃ z, z = u9 := ⟨_, rfl⟩
          obtain ⟨hP1, hK1, hD1⟩ := hB
          rw [ht] at hP1
          clear hK1
          try dsimp only at hw_8
          have hpd9 : PDx (dC, dI) classes A H1 (wp [oX4 pv ek ef ew ep es (nI n) sy dn, cI aC es 5 stf, oX9 h1 po pp ps pa pe pb pv pk pu pw pq pt un fw, cA aC po 8 fo] (va_pl L (plE aC u_9))) := jn_P (wr := [oX4 pv ek ef ew ep es (nI n) sy dn, cI aC es 5 stf]) hFc hk1 hP1 hD1 hP hD [0, 3] [1, 2] rfl rfl (by decide) (by decide)
          have hP := hpd9.1
          have hD := hpd9.2
          clear hpd9
          generalize H1 = H at hP hS ⊢
          clear hPc hDc hFc hz1 hk1 hP1 hD1 ht hvm
          obtain ⟨hv1, hv2⟩ := hw_8
          obtain ⟨x_10, e_10⟩ : ∃ y : Int32, y = (nI j) + 1 := ⟨_, rfl⟩
          refine lv_iinc (v := x_10) (lv' := [(4, Value.int x_10), (0, Value.ref h1), (1, Value.int (nI i)), (3, Value.int (nI (cq / (n - i))))]) hx hb dX9_shareFairly_52 hl (k := 3) rfl (by rw [e_10]; rfl) (by decide) rfl (fun ls hl => ?_)
          have h9 : x_10 = nI (j + 1) := by rw [e_10, nI_1]
          subst h9
          refine lv_goto (tgt := 32) hx hb dX9_shareFairly_55 (by decide) ?_
          exact ih_32 (j + 1) u_9 (ms_lt hlt hfu) (by omega) (fun q hq => by rw [hv1 q hq, sE_suc hj.1]) (fun a h => (hv2 a h).trans (hg2 a h)) _ _ _ (plP hP [2, 0, 1, 3] rfl) (plD hD [2, 0, 1, 3] (by decide) rfl) hS (lv_sub hl [1, 2, 3, 0] rfl)
    exact lp_32 ((n - (i + 1)) + 1) (i + 1) g (Nat.lt_succ_self _) (by omega) (fun q hq => by rw [Nat.sub_self]; exact hO q hq) (fun a _ => rfl) _ _ _ (plP hP [0, 1, 2, 3] rfl) (plD hD [0, 1, 2, 3] (by decide) rfl) hS (lv_sub hl [3, 4, 1, 0] rfl)
  · exact absurd (nI_lt (a := 0) (b := n - i) (by omega) (by omega)) c_2

set_option maxHeartbeats 1000000 in
set_option maxRecDepth 100000 in
/-- X9_spreadFromYoungest -/
theorem c_X9_spreadFromYoungest (l : Launch) (dC : Nat → ClassId) (dI : Nat → Nat → Nat) (aC : Nat → ClassId) (sz : Nat) (h1 : Nat) (po : Nat) (pp : Nat) (ps : Nat) (pa : Nat) (pe : Nat) (pb : Nat) (pv : Nat) (pk : Nat) (pu : Nat) (pw : Nat) (pq : Nat) (pt : Nat) (un : Int32) (fw : Int32) (ek : Nat) (ef : Nat) (ew : Nat) (ep : Nat) (es : Nat) (n : Nat) (sy : Int32) (dn : Int32) (L : List Nat) (g : Nat → Nat → Int32) (fo : Nat → Option Nat) (fp : Nat → Option Nat) (fs : Nat → Option Nat) (ro : Nat → Nat) (rp : Nat → Nat) (rs : Nat → Nat) (i : Nat) (cf : Nat) (O : Nat → Nat) (hgr : GRD L fo fp fs ro rp rs) (hi : i < n ∧ n ≤ 8) (hc : cf ≤ 99) (hO : ∀ q, q < 8 → g (ro i) q = nI (O q)) (hO9 : ∀ q, O q ≤ 99) : Met l yX9_spreadFromYoungest (wW yX9_spreadFromYoungest cX9_spreadFromYoungest 4 (none : Option FieldType)) ({ frames := 1, cells := 0, slots := 0, locals := 23 } : Room) (va_Pc [Value.ref h1, Value.int (nI i), Value.int (nI cf)] (fun U => U.heap.size = sz ∧ va_P (dC, dI) classes (wp [oX9 h1 po pp ps pa pe pb pv pk pu pw pq pt un fw, oX4 pv ek ef ew ep es (nI n) sy dn, cA aC po 8 fo] (va_pl L (plE aC g))) U.heap ∧ va_K (dC, dI) classes (TY aC) U ∧ va_D (fun _ => True) (wp [oX9 h1 po pp ps pa pe pb pv pk pu pw pq pt un fw, oX4 pv ek ef ew ep es (nI n) sy dn, cA aC po 8 fo] (va_pl L (plE aC g))) ∧ NX U)) (va_Qv (fun (g2 : Nat → Nat → Int32) => (∀ q, q < 8 → g2 (ro i) q = nI (sY O n i cf (n - 1 - i) q)) ∧ ∀ a, a ≠ ro i → g2 a = g a) (fun (g2 : Nat → Nat → Int32) (t : State) => va_P (dC, dI) classes (wp [oX9 h1 po pp ps pa pe pb pv pk pu pw pq pt un fw, oX4 pv ek ef ew ep es (nI n) sy dn, cA aC po 8 fo] (va_pl L (plE aC g2))) t.heap ∧ va_K (dC, dI) classes (TY aC) t ∧ va_D (va_A (wp [oX9 h1 po pp ps pa pe pb pv pk pu pw pq pt un fw, oX4 pv ek ef ew ep es (nI n) sy dn, cA aC po 8 fo] (va_pl L (plE aC g))) sz) (wp [oX9 h1 po pp ps pa pe pb pv pk pu pw pq pt un fw, oX4 pv ek ef ew ep es (nI n) sy dn, cA aC po 8 fo] (va_pl L (plE aC g2)))) (va_A (wp [oX9 h1 po pp ps pa pe pb pv pk pu pw pq pt un fw, oX4 pv ek ef ew ep es (nI n) sy dn, cA aC po 8 fo] (va_pl L (plE aC g))) sz)) 0 0 (va_A (wp [oX9 h1 po pp ps pa pe pb pv pk pu pw pq pt un fw, oX4 pv ek ef ew ep es (nI n) sy dn, cA aC po 8 fo] (va_pl L (plE aC g))) sz) := by
  refine Met.ofW (cc := cX9_spreadFromYoungest) (maxL := 4) (ret := (none : Option FieldType)) (by decide) rfl ?_
  intro p e s m args below meth c s₁ B hml hv
  obtain ⟨rfl, hsz, hP, hK, hD0, hN⟩ := hv
  have hx := B.exec
  have hb := B.bytes
  have hr := B.returns
  have hts0 := atoms_spec (ws := (wW yX9_spreadFromYoungest cX9_spreadFromYoungest 4 (none : Option FieldType))) B.pre
  have hts : ∀ w9 ∈ lw_G, w9.before ([Value.ref h1, Value.int (nI i), Value.int (nI cf)] : List Value).toArray s = true := fun w9 h9 => hts0 w9 (List.mem_cons_of_mem _ h9)
  have hown : s.vm.findClass RX9 = some m.cls := findClass_of_methodNamed (x := yX9_spreadFromYoungest) B.named
  have hlocks := B.notSynchronized
  subst hsz
  have hD := hD0.self (sz := s.heap.size)
  generalize hAe : va_A (wp [oX9 h1 po pp ps pa pe pb pv pk pu pw pq pt un fw, oX4 pv ek ef ew ep es (nI n) sy dn, cA aC po 8 fo] (va_pl L (plE aC g))) s.heap.size = A at hD ⊢
  have hA : ∀ q : Nat, s.heap.size ≤ q → A q := fun q h => by rw [← hAe]; exact Or.inr h
  obtain ⟨H, hHe⟩ : ∃ H : Heap, H = s.heap := ⟨_, rfl⟩
  have hS : va_S A s.heap H [] := by rw [hHe]; exact va_S.rf
  have hP : va_P (dC, dI) classes (wp [oX9 h1 po pp ps pa pe pb pv pk pu pw pq pt un fw, oX4 pv ek ef ew ep es (nI n) sy dn, cA aC po 8 fo] (va_pl L (plE aC g))) H := by rw [hHe]; exact hP
  have hl := lv_entry ([Value.ref h1, Value.int (nI i), Value.int (nI cf)]) (n := 4) (Nat.le_of_ble_eq_true rfl)
  rw [lg_entry_eq]
  generalize (lg_sl ([Value.ref h1, Value.int (nI i), Value.int (nI cf)]) ++ List.replicate (4 - (lg_sl ([Value.ref h1, Value.int (nI i), Value.int (nI cf)])).length) Slot.unset).toArray = ls at hl ⊢
  have hl : lv_has ls 4 [(0, Value.ref h1), (1, Value.int (nI i)), (2, Value.int (nI cf))] := hl
  rw [← hHe]
  refine lv_aload_n hx hb dX9_spreadFromYoungest_0 rfl (lv_at hl 0 rfl) ?_
  refine va_get (D := (dC, dI)) (ci := 9) (v := Value.ref pv) (C := RX9) (T := TX9) (N := 14) hx hb hts inX9 hown hK hP 0 rfl rfl 6 (by decide) (hts _ (gw kw_162 rfl)) (fun _ h9 => h9) rfl dX9_spreadFromYoungest_1 ?_
  refine va_get (D := (dC, dI)) (ci := 4) (v := Value.int (nI n)) (C := RX4) (T := TX4) (N := 8) hx hb hts inX4 hown hK hP 1 rfl rfl 5 (by decide) (hts _ (gw kw_47 rfl)) (fun _ h9 => h9) rfl dX9_spreadFromYoungest_4 ?_
  refine lv_iconst (v := 1) hx hb dX9_spreadFromYoungest_7 (by decide) ?_
  refine lv_isub hx hb dX9_spreadFromYoungest_8 ?_
  refine lv_topi (fun x_1 e_1 => ?_)
  have h9 : x_1 = nI (n - 1 - 0) := by rw [e_1]; exact pk_sub (a := n) (b := 1) (by omega)
  subst h9
  refine lv_istore_n (lv' := [(3, Value.int (nI (n - 1 - 0))), (0, Value.ref h1), (1, Value.int (nI i)), (2, Value.int (nI cf))]) hx hb dX9_spreadFromYoungest_9 rfl hl (by decide) rfl (fun ls hl => ?_)
  have lp_10 : ∀ (fu : Nat) (k : Nat) (gc : Nat → Nat → Int32) (hfu : n - k < fu) (hk : k ≤ n - 1 - i) (hg1 : ∀ q, q < 8 → gc (ro i) q = nI (sY O n i cf k q)) (hg2 : ∀ a, a ≠ ro i → gc a = g a) (H : Heap) (locs : List Loc) (ls : Array Slot), va_P (dC, dI) classes (wp [oX9 h1 po pp ps pa pe pb pv pk pu pw pq pt un fw, oX4 pv ek ef ew ep es (nI n) sy dn, cA aC po 8 fo] (va_pl L (plE aC gc))) H → va_D A (wp [oX9 h1 po pp ps pa pe pb pv pk pu pw pq pt un fw, oX4 pv ek ef ew ep es (nI n) sy dn, cA aC po 8 fo] (va_pl L (plE aC gc))) → va_S A s.heap H locs → lv_has ls 4 [(0, Value.ref h1), (1, Value.int (nI i)), (2, Value.int (nI cf)), (3, Value.int (nI (n - 1 - k)))] → W p l e (headSpec (wW yX9_spreadFromYoungest cX9_spreadFromYoungest 4 (none : Option FieldType)) ({ frames := 1, cells := 0, slots := 0, locals := 23 } : Room)).room s m ([Value.ref h1, Value.int (nI i), Value.int (nI cf)] : List Value).toArray below meth c H locs 0 0 (MQ below (va_Qv (fun (g2 : Nat → Nat → Int32) => (∀ q, q < 8 → g2 (ro i) q = nI (sY O n i cf (n - 1 - i) q)) ∧ ∀ a, a ≠ ro i → g2 a = g a) (fun (g2 : Nat → Nat → Int32) (t : State) => va_P (dC, dI) classes (wp [oX9 h1 po pp ps pa pe pb pv pk pu pw pq pt un fw, oX4 pv ek ef ew ep es (nI n) sy dn, cA aC po 8 fo] (va_pl L (plE aC g2))) t.heap ∧ va_K (dC, dI) classes (TY aC) t ∧ va_D A (wp [oX9 h1 po pp ps pa pe pb pv pk pu pw pq pt un fw, oX4 pv ek ef ew ep es (nI n) sy dn, cA aC po 8 fo] (va_pl L (plE aC g2)))) A) ([Value.ref h1, Value.int (nI i), Value.int (nI cf)] : List Value).toArray s 0 0 A) (F0 m 10 ls []) := by
    intro fu
    induction fu with
    | zero => intro k gc hfu; exact absurd hfu (Nat.not_lt_zero _)
    | succ fu ih_10 =>
      intro k gc hfu hk hg1 hg2 H locs ls hP hD hS hl
      refine lv_iload_n hx hb dX9_spreadFromYoungest_10 rfl (lv_at hl 3 rfl) ?_
      refine lv_iload_n hx hb dX9_spreadFromYoungest_11 rfl (lv_at hl 1 rfl) ?_
      refine lv_icmp_le (tgt := 28) hx hb dX9_spreadFromYoungest_12 (by decide) (fun c_2 => ?_) (fun c_2 => ?_)
      · have hkn : k = n - 1 - i := by
          have := (nI_leI (a := n - 1 - k) (b := i) (by omega) (by omega)).mp c_2
          omega
        have hpd9 := pd_P (cx := [oX9 h1 po pp ps pa pe pb pv pk pu pw pq pt un fw, oX4 pv ek ef ew ep es (nI n) sy dn, cA aC po 8 fo]) hP hD [0, 1, 2] (by decide) rfl
        have hP9 := hpd9.1
        have hD9 := hpd9.2
        refine W.widen (k := 0) (n := 0) (by omega) (by omega) ?_
        exact W.vret hx hb hr (fun t ht hW => ⟨⟨(gc), rfl, ⟨fun q hq => by rw [hg1 q hq, hkn], hg2⟩, by rw [ht]; exact hP9, va_K.moved hW.alike hK, hD9⟩, hS.F ht⟩) hS.2.2 dX9_spreadFromYoungest_28
      · have hlt : k < n - 1 - i := by
          rcases Nat.lt_or_ge k (n - 1 - i) with q | q
          · exact q
          · exact absurd (nI_le (a := n - 1 - k) (b := i) (by omega) (by omega)) c_2
        refine lv_aload_n hx hb dX9_spreadFromYoungest_15 rfl (lv_at hl 0 rfl) ?_
        refine lv_iload_n hx hb dX9_spreadFromYoungest_16 rfl (lv_at hl 1 rfl) ?_
        refine lv_iload_n hx hb dX9_spreadFromYoungest_17 rfl (lv_at hl 3 rfl) ?_
        refine lv_iload_n hx hb dX9_spreadFromYoungest_18 rfl (lv_at hl 2 rfl) ?_
        have hpd9 := pdf_P (cx := [oX9 h1 po pp ps pa pe pb pv pk pu pw pq pt un fw, cA aC po 8 fo]) hP hD hS hA [0, 2] (by decide) rfl
        have hPc := hpd9.1
        have hDc := hpd9.2.1
        have hFc := hpd9.2.2
        clear hpd9
        refine va_callv (va_runV (As := [Value.int (nI i), Value.int (nI (n - 1 - k)), Value.int (nI cf)]) (rest := []) ⟨hx, hb, hml, hown, hts⟩ (c_X9_give l dC dI aC H.size h1 po pp ps pa pe pb pv pk pu pw pq pt un fw L gc fo fp fs ro rp rs i (n - 1 - k) cf (sY O n i cf k) (hgr) (by omega) (hc) (hg1) (sY_le hc hO9 _)) ⟨(callB_of 3 hts (gG kw_416) rfl rfl rfl (hts _ (gw kw_11 rfl)) (hts _ (gw kw_413 rfl)) hd_X9_give ⟨Nat.le_of_ble_eq_true rfl, Nat.le_of_ble_eq_true rfl⟩), (hts _ (gw kw_415 rfl)), (hts _ (gw ks_10 rfl))⟩ ⟨fb_std, va_recv (q := (RX9, TX9, 14)) hK hPc (ci := 9) (q0 := 0) rfl rfl, pre_std hPc hK hDc hN⟩ rfl rfl hl.1 rfl (lv_room (Nat.le_of_ble_eq_true rfl)) dX9_spreadFromYoungest_19 ⟨Nat.le_of_ble_eq_true rfl, Nat.le_of_ble_eq_true rfl⟩) hS (fun q _ h => hFc q h) hFc (fun u9 t9 H1 locs ht hvm hw_3 hB hz1 hk1 hS => ?_)
        obtain ⟨u_4, rfl⟩ : ∃ z, z = u9 := ⟨_, rfl⟩
        obtain ⟨hP1, hK1, hD1⟩ := hB
        rw [ht] at hP1
        clear hK1
        try dsimp only at hw_3
        have hpd9 : PDx (dC, dI) classes A H1 (wp [oX4 pv ek ef ew ep es (nI n) sy dn, oX9 h1 po pp ps pa pe pb pv pk pu pw pq pt un fw, cA aC po 8 fo] (va_pl L (plE aC u_4))) := jn_P (wr := [oX4 pv ek ef ew ep es (nI n) sy dn]) hFc hk1 hP1 hD1 hP hD [0, 2] [1] rfl rfl (by decide) (by decide)
        have hP := hpd9.1
        have hD := hpd9.2
        clear hpd9
        generalize H1 = H at hP hS ⊢
        clear hPc hDc hFc hz1 hk1 hP1 hD1 ht hvm
        obtain ⟨hv1, hv2⟩ := hw_3
        obtain ⟨x_5, e_5⟩ : ∃ y : Int32, y = (nI (n - 1 - k)) + (-1) := ⟨_, rfl⟩
        refine lv_iinc (v := x_5) (lv' := [(3, Value.int x_5), (0, Value.ref h1), (1, Value.int (nI i)), (2, Value.int (nI cf))]) hx hb dX9_spreadFromYoungest_22 hl (k := 3) rfl (by rw [e_5]; rfl) (by decide) rfl (fun ls hl => ?_)
        have h9 : x_5 = nI (n - 1 - (k + 1)) := by rw [e_5, show n - 1 - k = (n - 1 - (k + 1)) + 1 by omega]; exact pk_m1 _
        subst h9
        refine lv_goto (tgt := 10) hx hb dX9_spreadFromYoungest_25 (by decide) ?_
        exact ih_10 (k + 1) u_4 (by omega) (by omega) (hv1) (fun a h => (hv2 a h).trans (hg2 a h)) _ _ _ (plP hP [1, 0, 2] rfl) (plD hD [1, 0, 2] (by decide) rfl) hS (lv_sub hl [1, 2, 3, 0] rfl)
  exact lp_10 ((n - 0) + 1) 0 g (Nat.lt_succ_self _) (by omega) (hO) (fun a _ => rfl) _ _ _ (plP hP [0, 1, 2] rfl) (plD hD [0, 1, 2] (by decide) rfl) hS (lv_sub hl [1, 2, 3, 0] rfl)

end

