/-- letters -/
def LTR (lz : Nat) (L : Nat → Nat) (sg : Nat → Int32) : Prop := lz ≤ 64 ∧ ∀ k, k < lz → sg k = nI (L k) ∧ L k ≤ 255
def dig (x : Nat) : Prop := 48 ≤ x ∧ x ≤ 57
/-- one letter more: 0 a statement may begin, 1 2 3 digits are lacking, 4 only the end, 5 6 of the coins, 9 broken -/
def lsp (q x : Nat) : Nat :=
  if q = 0 then (if x = 109 ∨ x = 108 then 1 else if x = 99 then 5 else 9)
  else if q = 1 then (if 48 ≤ x ∧ x ≤ 57 then 2 else 9)
  else if q = 2 then (if 48 ≤ x ∧ x ≤ 57 then 3 else 9)
  else if q = 3 then (if 48 ≤ x ∧ x ≤ 57 then 4 else 9)
  else if q = 4 then (if x = 59 then 0 else 9)
  else if q = 5 then (if 48 ≤ x ∧ x ≤ 57 then 6 else 9)
  else if q = 6 then (if 48 ≤ x ∧ x ≤ 57 then 4 else if x = 59 then 0 else 9)
  else 9
theorem lsp_0 (x : Nat) : lsp 0 x = (if x = 109 ∨ x = 108 then 1 else if x = 99 then 5 else 9) := rfl
theorem lsp_1 (x : Nat) : lsp 1 x = (if 48 ≤ x ∧ x ≤ 57 then 2 else 9) := rfl
theorem lsp_2 (x : Nat) : lsp 2 x = (if 48 ≤ x ∧ x ≤ 57 then 3 else 9) := rfl
theorem lsp_3 (x : Nat) : lsp 3 x = (if 48 ≤ x ∧ x ≤ 57 then 4 else 9) := rfl
theorem lsp_5 (x : Nat) : lsp 5 x = (if 48 ≤ x ∧ x ≤ 57 then 6 else 9) := rfl
theorem lsp_4 (x : Nat) : lsp 4 x = (if x = 59 then 0 else 9) := rfl
theorem lsp_6 (x : Nat) : lsp 6 x = (if 48 ≤ x ∧ x ≤ 57 then 4 else if x = 59 then 0 else 9) := rfl
def lrn (L : Nat → Nat) : Nat → Nat
  | 0 => 0
  | p + 1 => lsp (lrn L p) (L p)
def fps (L : Nat → Nat) : Nat → Nat → Nat
  | p, 0 => p
  | p, k + 1 => if lrn L (p + 1) = 9 then p else fps L (p + 1) k
def lst (L : Nat → Nat) : Nat → Nat
  | 0 => 0
  | p + 1 => if L p = 59 then p + 1 else lst L p
def cm (L : Nat → Nat) : Nat → Nat
  | 0 => 0
  | p + 1 => cm L p + (if L p = 59 ∧ L (lst L p) = 109 then 1 else 0)
theorem fps_s {L : Nat → Nat} {p z : Nat} (h : p < z) : fps L p (z - p) = if lrn L (p + 1) = 9 then p else fps L (p + 1) (z - (p + 1)) := by
  rw [show z - p = (z - (p + 1)) + 1 by omega]; rfl
theorem lsp_9 {x : Nat} : lsp 9 x = 9 := rfl
theorem lrn_le {L : Nat → Nat} {p z : Nat} (h : lrn L z ≠ 9) (hp : p ≤ z) : lrn L p ≠ 9 := by
  induction z with
  | zero => have : p = 0 := by omega
            subst this; exact h
  | succ z ih =>
    by_cases e : p = z + 1
    · subst e; exact h
    · refine ih (fun q => h ?_) (by omega)
      show lsp (lrn L z) (L z) = 9
      rw [q]; rfl
theorem lst_le (L : Nat → Nat) : ∀ p, lst L p ≤ p
  | 0 => Nat.le_refl 0
  | p + 1 => by
    show (if L p = 59 then p + 1 else lst L p) ≤ p + 1
    have := lst_le L p
    split <;> omega
/-- a statement from s to its end at e -/
def STM (L : Nat → Nat) (s e : Nat) : Prop := ((L s = 109 ∨ L s = 108) ∧ e = s + 4 ∧ dig (L (s + 1)) ∧ dig (L (s + 2)) ∧ dig (L (s + 3))) ∨ (L s = 99 ∧ ((e = s + 2 ∧ dig (L (s + 1))) ∨ (e = s + 3 ∧ dig (L (s + 1)) ∧ dig (L (s + 2)))))
def RNV (L : Nat → Nat) (s p q : Nat) : Prop :=
  (q = 0 ∧ s = p) ∨ (q = 1 ∧ p = s + 1 ∧ (L s = 109 ∨ L s = 108)) ∨ (q = 2 ∧ p = s + 2 ∧ (L s = 109 ∨ L s = 108) ∧ dig (L (s + 1))) ∨ (q = 3 ∧ p = s + 3 ∧ (L s = 109 ∨ L s = 108) ∧ dig (L (s + 1)) ∧ dig (L (s + 2)))
  ∨ (q = 4 ∧ ((p = s + 4 ∧ (L s = 109 ∨ L s = 108) ∧ dig (L (s + 1)) ∧ dig (L (s + 2)) ∧ dig (L (s + 3))) ∨ (p = s + 3 ∧ L s = 99 ∧ dig (L (s + 1)) ∧ dig (L (s + 2))))) ∨ (q = 5 ∧ p = s + 1 ∧ L s = 99) ∨ (q = 6 ∧ p = s + 2 ∧ L s = 99 ∧ dig (L (s + 1)))
theorem RNV_s {L : Nat → Nat} {s p q : Nat} (h : RNV L s p q) (h9 : lsp q (L p) ≠ 9) : RNV L (if L p = 59 then p + 1 else s) (p + 1) (lsp q (L p)) ∧ (L p = 59 → STM L s p) := by
  unfold RNV at h
  rcases h with ⟨e, h⟩ | ⟨e, h⟩ | ⟨e, h⟩ | ⟨e, h⟩ | ⟨e, h⟩ | ⟨e, h⟩ | ⟨e, h⟩
  · subst e; subst h
    rw [lsp_0] at h9 ⊢
    by_cases a : L s = 109 ∨ L s = 108
    · rw [if_pos a, if_neg (by omega)]; exact ⟨Or.inr (Or.inl ⟨rfl, rfl, a⟩), fun z => by omega⟩
    · rw [if_neg a] at h9 ⊢
      by_cases b : L s = 99
      · rw [if_pos b, if_neg (by omega)]; exact ⟨Or.inr (Or.inr (Or.inr (Or.inr (Or.inr (Or.inl ⟨rfl, rfl, b⟩))))), fun z => by omega⟩
      · rw [if_neg b] at h9; exact absurd rfl h9
  · subst e; obtain ⟨h1, h2⟩ := h
    rw [lsp_1] at h9 ⊢
    by_cases a : 48 ≤ L p ∧ L p ≤ 57
    · rw [if_pos a, if_neg (by omega)]; subst h1; exact ⟨Or.inr (Or.inr (Or.inl ⟨rfl, rfl, h2, a⟩)), fun z => by omega⟩
    · rw [if_neg a] at h9; exact absurd rfl h9
  · subst e; obtain ⟨h1, h2, h3⟩ := h
    rw [lsp_2] at h9 ⊢
    by_cases a : 48 ≤ L p ∧ L p ≤ 57
    · rw [if_pos a, if_neg (by omega)]; subst h1; exact ⟨Or.inr (Or.inr (Or.inr (Or.inl ⟨rfl, rfl, h2, h3, a⟩))), fun z => by omega⟩
    · rw [if_neg a] at h9; exact absurd rfl h9
  · subst e; obtain ⟨h1, h2, h3, h4⟩ := h
    rw [lsp_3] at h9 ⊢
    by_cases a : 48 ≤ L p ∧ L p ≤ 57
    · rw [if_pos a, if_neg (by omega)]; subst h1; exact ⟨Or.inr (Or.inr (Or.inr (Or.inr (Or.inl ⟨rfl, Or.inl ⟨rfl, h2, h3, h4, a⟩⟩)))), fun z => by omega⟩
    · rw [if_neg a] at h9; exact absurd rfl h9
  · subst e
    rw [lsp_4] at h9 ⊢
    by_cases a : L p = 59
    · rw [if_pos a, if_pos a]
      refine ⟨Or.inl ⟨rfl, rfl⟩, fun _ => ?_⟩
      rcases h with ⟨h1, h2⟩ | ⟨h1, h2, h3⟩
      · exact Or.inl ⟨h2.1, h1, h2.2⟩
      · exact Or.inr ⟨h2, Or.inr ⟨h1, h3⟩⟩
    · rw [if_neg a] at h9; exact absurd rfl h9
  · subst e; obtain ⟨h1, h2⟩ := h
    rw [lsp_5] at h9 ⊢
    by_cases a : 48 ≤ L p ∧ L p ≤ 57
    · rw [if_pos a, if_neg (by omega)]; subst h1; exact ⟨Or.inr (Or.inr (Or.inr (Or.inr (Or.inr (Or.inr ⟨rfl, rfl, h2, a⟩))))), fun z => by omega⟩
    · rw [if_neg a] at h9; exact absurd rfl h9
  · subst e; obtain ⟨h1, h2, h3⟩ := h
    rw [lsp_6] at h9 ⊢
    by_cases a : 48 ≤ L p ∧ L p ≤ 57
    · rw [if_pos a, if_neg (by omega)]; subst h1; exact ⟨Or.inr (Or.inr (Or.inr (Or.inr (Or.inl ⟨rfl, Or.inr ⟨rfl, h2, h3, a⟩⟩)))), fun z => by omega⟩
    · rw [if_neg a] at h9 ⊢
      by_cases b : L p = 59
      · rw [if_pos b, if_pos b]; exact ⟨Or.inl ⟨rfl, rfl⟩, fun _ => Or.inr ⟨h2, Or.inl ⟨h1, h3⟩⟩⟩
      · rw [if_neg b] at h9; exact absurd rfl h9
theorem RNV_r {L : Nat → Nat} : ∀ p, lrn L p ≠ 9 → RNV L (lst L p) p (lrn L p)
  | 0, _ => Or.inl ⟨rfl, rfl⟩
  | p + 1, h => (RNV_s (RNV_r p (lrn_le h (by omega))) h).1
theorem STM_r {L : Nat → Nat} {z e : Nat} (h : lrn L z ≠ 9) (he : e < z) (hs : L e = 59) : STM L (lst L e) e := (RNV_s (RNV_r e (lrn_le h (by omega))) (lrn_le (p := e + 1) h (by omega))).2 hs
/-- the class's three marks and the scanner's state -/
def CST (q : Nat) (is mu ma : Int32) : Prop := (q = 0 ∧ is = 1) ∨ (q = 1 ∧ is = 0 ∧ mu = 3 ∧ ma = 0) ∨ (q = 2 ∧ is = 0 ∧ mu = 2 ∧ ma = 0) ∨ (q = 3 ∧ is = 0 ∧ mu = 1 ∧ ma = 0) ∨ (q = 4 ∧ is = 0 ∧ mu = 0 ∧ ma = 0) ∨ (q = 5 ∧ is = 0 ∧ mu = 1 ∧ ma = 1) ∨ (q = 6 ∧ is = 0 ∧ mu = 0 ∧ ma = 1)
theorem CST_0 {q : Nat} {is mu ma : Int32} (h : CST q is mu ma) (hi : ¬ is = 0) : q = 0 := by
  rcases h with h | h | h | h | h | h | h
  · exact h.1
  all_goals exact absurd h.2.1 hi
theorem dig_b {x : Nat} (hx : x ≤ 255) {r : Int32} (h : r = if nI x < 48 then 0 else if 57 < nI x then 0 else 1) : (r = 0 → ¬ (48 ≤ x ∧ x ≤ 57)) ∧ (¬ r = 0 → 48 ≤ x ∧ x ≤ 57) := by
  have e1 : nI x < 48 ↔ x < 48 := nI_ltI (b := 48) (by omega) (by omega)
  have e2 : (57 : Int32) < nI x ↔ 57 < x := nI_ltI (a := 57) (by omega) (by omega)
  constructor
  · intro hr q
    rw [if_neg (fun z => by have := e1.mp z; omega), if_neg (fun z => by have := e2.mp z; omega), hr] at h
    exact absurd h (by decide)
  · intro hr
    by_cases a : nI x < 48
    · rw [if_pos a] at h; exact absurd h hr
    · by_cases b : (57 : Int32) < nI x
      · rw [if_neg a, if_pos b] at h; exact absurd h hr
      · exact ⟨Nat.le_of_not_lt fun z => a (e1.mpr z), Nat.le_of_not_lt fun z => b (e2.mpr z)⟩
theorem cst_s {q x : Nat} {mu ma : Int32} (h : CST q 0 mu ma) : (48 ≤ x ∧ x ≤ 57 → 0 < mu → CST (lsp q x) 0 (mu + (-1)) ma) ∧ (48 ≤ x ∧ x ≤ 57 → ¬ 0 < mu → 0 < ma → CST (lsp q x) 0 mu (ma + (-1))) ∧ (¬ (48 ≤ x ∧ x ≤ 57 ∧ (0 < mu ∨ 0 < ma)) → x = 59 → mu = 0 → CST (lsp q x) 1 mu ma) ∧ (¬ (48 ≤ x ∧ x ≤ 57 ∧ (0 < mu ∨ 0 < ma)) → ¬ (x = 59 ∧ mu = 0) → lsp q x = 9) := by
  unfold CST at h
  rcases h with ⟨e, h⟩ | ⟨e, -, h1, h2⟩ | ⟨e, -, h1, h2⟩ | ⟨e, -, h1, h2⟩ | ⟨e, -, h1, h2⟩ | ⟨e, -, h1, h2⟩ | ⟨e, -, h1, h2⟩
  · exact absurd h (by decide)
  · subst e; subst h1; subst h2
    refine ⟨fun a _ => ?_, fun _ b => absurd (by decide) b, fun _ _ b => absurd b (by decide), fun a _ => ?_⟩
    · rw [lsp_1, if_pos a]; exact Or.inr (Or.inr (Or.inl ⟨rfl, rfl, rfl, rfl⟩))
    · rw [lsp_1, if_neg (fun z => a ⟨z.1, z.2, Or.inl (by decide)⟩)]
  · subst e; subst h1; subst h2
    refine ⟨fun a _ => ?_, fun _ b => absurd (by decide) b, fun _ _ b => absurd b (by decide), fun a _ => ?_⟩
    · rw [lsp_2, if_pos a]; exact Or.inr (Or.inr (Or.inr (Or.inl ⟨rfl, rfl, rfl, rfl⟩)))
    · rw [lsp_2, if_neg (fun z => a ⟨z.1, z.2, Or.inl (by decide)⟩)]
  · subst e; subst h1; subst h2
    refine ⟨fun a _ => ?_, fun _ b => absurd (by decide) b, fun _ _ b => absurd b (by decide), fun a _ => ?_⟩
    · rw [lsp_3, if_pos a]; exact Or.inr (Or.inr (Or.inr (Or.inr (Or.inl ⟨rfl, rfl, rfl, rfl⟩))))
    · rw [lsp_3, if_neg (fun z => a ⟨z.1, z.2, Or.inl (by decide)⟩)]
  · subst e; subst h1; subst h2
    refine ⟨fun _ b => absurd b (by decide), fun _ _ b => absurd b (by decide), fun _ b _ => ?_, fun _ b => ?_⟩
    · rw [lsp_4, if_pos b]; exact Or.inl ⟨rfl, rfl⟩
    · rw [lsp_4, if_neg (fun z => b ⟨z, rfl⟩)]
  · subst e; subst h1; subst h2
    refine ⟨fun a _ => ?_, fun _ b => absurd (by decide) b, fun _ _ b => absurd b (by decide), fun a _ => ?_⟩
    · rw [lsp_5, if_pos a]; exact Or.inr (Or.inr (Or.inr (Or.inr (Or.inr (Or.inr ⟨rfl, rfl, rfl, rfl⟩)))))
    · rw [lsp_5, if_neg (fun z => a ⟨z.1, z.2, Or.inl (by decide)⟩)]
  · subst e; subst h1; subst h2
    refine ⟨fun _ b => absurd b (by decide), fun a _ _ => ?_, fun a b _ => ?_, fun a b => ?_⟩
    · rw [lsp_6, if_pos a]; exact Or.inr (Or.inr (Or.inr (Or.inr (Or.inl ⟨rfl, rfl, rfl, rfl⟩))))
    · rw [lsp_6, if_neg (by omega), if_pos b]; exact Or.inl ⟨rfl, rfl⟩
    · rw [lsp_6, if_neg (fun z => a ⟨z.1, z.2, Or.inr (by decide)⟩), if_neg (fun z => b ⟨z, rfl⟩)]
theorem cst_st0 {x : Nat} (hx : x ≤ 255) {mu ma : Int32} (hm : mu = if nI x = 109 ∨ nI x = 108 then 3 else if nI x = 99 then 1 else 0) (ha : ma = if nI x = 99 then 1 else 0) : (¬ mu = 0 → CST (lsp 0 x) 0 mu ma) ∧ (mu = 0 → lsp 0 x = 9) := by
  have e1 : nI x = 109 ↔ x = 109 := nI_eq (b := 109) (by omega) (by omega)
  have e2 : nI x = 108 ↔ x = 108 := nI_eq (b := 108) (by omega) (by omega)
  have e3 : nI x = 99 ↔ x = 99 := nI_eq (b := 99) (by omega) (by omega)
  rw [lsp_0]
  by_cases a : x = 109 ∨ x = 108
  · rw [if_pos (a.elim (fun z => Or.inl (e1.mpr z)) (fun z => Or.inr (e2.mpr z)))] at hm
    rw [if_neg (fun z => by have := e3.mp z; omega)] at ha
    rw [if_pos a]
    exact ⟨fun _ => Or.inr (Or.inl ⟨rfl, rfl, hm, ha⟩), fun z => by rw [hm] at z; exact absurd z (by decide)⟩
  · rw [if_neg (fun z => a (z.elim (fun y => Or.inl (e1.mp y)) (fun y => Or.inr (e2.mp y))))] at hm
    rw [if_neg a]
    by_cases b : x = 99
    · rw [if_pos (e3.mpr b)] at hm ha
      rw [if_pos b]
      exact ⟨fun _ => Or.inr (Or.inr (Or.inr (Or.inr (Or.inr (Or.inl ⟨rfl, rfl, hm, ha⟩))))), fun z => by rw [hm] at z; exact absurd z (by decide)⟩
    · rw [if_neg (fun z => b (e3.mp z))] at hm
      rw [if_neg b]
      exact ⟨fun z => absurd hm z, fun _ => rfl⟩
