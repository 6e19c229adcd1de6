section
/-! 79.lett -/
/-- letters -/
def LTR (lz : Nat) (L : Nat → Nat) (sg : Nat → Int32) : Prop := lz ≤ 64 ∧ ∀ k, k < lz → sg k = nI (L k) ∧ L k ≤ 255
def dig (x : Nat) : Prop := 48 ≤ x ∧ x ≤ 57
/-- one letter more: 0 a statement may begin, 1 2 3 digits are lacking, 4 only the end, 5 6 of the coins, 9 broken -/
def lsp (q x : Nat) : Nat :=
  if q = 0 then (if x = 109 ∨ x = 108 then 1 else if x = 99 then 5 else 9)
  else if q = 1 then (if 48 ≤ x ∧ x ≤ 57 then 2 else 9)
  else if q = 2 then (if 48 ≤ x ∧ x ≤ 57 then 3 else 9)
  else if q = 3 then (if 48 ≤ x ∧ x ≤ 57 then 4 else 9)
  else if q = 4 then (if x = 59 then 0 else 9)
  else if q = 5 then (if 48 ≤ x ∧ x ≤ 57 then 6 else 9)
  else if q = 6 then (if 48 ≤ x ∧ x ≤ 57 then 4 else if x = 59 then 0 else 9)
  else 9
theorem lsp_0 (x : Nat) : lsp 0 x = (if x = 109 ∨ x = 108 then 1 else if x = 99 then 5 else 9) := rfl
theorem lsp_1 (x : Nat) : lsp 1 x = (if 48 ≤ x ∧ x ≤ 57 then 2 else 9) := rfl
theorem lsp_2 (x : Nat) : lsp 2 x = (if 48 ≤ x ∧ x ≤ 57 then 3 else 9) := rfl
theorem lsp_3 (x : Nat) : lsp 3 x = (if 48 ≤ x ∧ x ≤ 57 then 4 else 9) := rfl
theorem lsp_5 (x : Nat) : lsp 5 x = (if 48 ≤ x ∧ x ≤ 57 then 6 else 9) := rfl
theorem lsp_4 (x : Nat) : lsp 4 x = (if x = 59 then 0 else 9) := rfl
theorem lsp_6 (x : Nat) : lsp 6 x = (if 48 ≤ x ∧ x ≤ 57 then 4 else if x = 59 then 0 else 9) := rfl
def lrn (L : Nat → Nat) : Nat → Nat
  | 0 => 0
  | p + 1 => lsp (lrn L p) (L p)
def fps (L : Nat → Nat) : Nat → Nat → Nat
  | p, 0 => p
  | p, k + 1 => if lrn L (p + 1) = 9 then p else fps L (p + 1) k
def lst (L : Nat → Nat) : Nat → Nat
  | 0 => 0
  | p + 1 => if L p = 59 then p + 1 else lst L p
def cm (L : Nat → Nat) : Nat → Nat
  | 0 => 0
  | p + 1 => cm L p + (if L p = 59 ∧ L (lst L p) = 109 then 1 else 0)
theorem fps_s {L : Nat → Nat} {p z : Nat} (h : p < z) : fps L p (z - p) = if lrn L (p + 1) = 9 then p else fps L (p + 1) (z - (p + 1)) := by
  rw [show z - p = (z - (p + 1)) + 1 by omega]; rfl
theorem lsp_9 {x : Nat} : lsp 9 x = 9 := rfl
theorem lrn_le {L : Nat → Nat} {p z : Nat} (h : lrn L z ≠ 9) (hp : p ≤ z) : lrn L p ≠ 9 := by
  induction z with
  | zero => have : p = 0 := by omega
            subst this; exact h
  | succ z ih =>
    by_cases e : p = z + 1
    · subst e; exact h
    · refine ih (fun q => h ?_) (by omega)
      show lsp (lrn L z) (L z) = 9
      rw [q]; rfl
theorem lst_le (L : Nat → Nat) : ∀ p, lst L p ≤ p
  | 0 => Nat.le_refl 0
  | p + 1 => by
    show (if L p = 59 then p + 1 else lst L p) ≤ p + 1
    have := lst_le L p
    split <;> omega
/-- a statement from s to its end at e -/
def STM (L : Nat → Nat) (s e : Nat) : Prop := ((L s = 109 ∨ L s = 108) ∧ e = s + 4 ∧ dig (L (s + 1)) ∧ dig (L (s + 2)) ∧ dig (L (s + 3))) ∨ (L s = 99 ∧ ((e = s + 2 ∧ dig (L (s + 1))) ∨ (e = s + 3 ∧ dig (L (s + 1)) ∧ dig (L (s + 2)))))
def RNV (L : Nat → Nat) (s p q : Nat) : Prop :=
  (q = 0 ∧ s = p) ∨ (q = 1 ∧ p = s + 1 ∧ (L s = 109 ∨ L s = 108)) ∨ (q = 2 ∧ p = s + 2 ∧ (L s = 109 ∨ L s = 108) ∧ dig (L (s + 1))) ∨ (q = 3 ∧ p = s + 3 ∧ (L s = 109 ∨ L s = 108) ∧ dig (L (s + 1)) ∧ dig (L (s + 2)))
  ∨ (q = 4 ∧ ((p = s + 4 ∧ (L s = 109 ∨ L s = 108) ∧ dig (L (s + 1)) ∧ dig (L (s + 2)) ∧ dig (L (s + 3))) ∨ (p = s + 3 ∧ L s = 99 ∧ dig (L (s + 1)) ∧ dig (L (s + 2))))) ∨ (q = 5 ∧ p = s + 1 ∧ L s = 99) ∨ (q = 6 ∧ p = s + 2 ∧ L s = 99 ∧ dig (L (s + 1)))
theorem RNV_s {L : Nat → Nat} {s p q : Nat} (h : RNV L s p q) (h9 : lsp q (L p) ≠ 9) : RNV L (if L p = 59 then p + 1 else s) (p + 1) (lsp q (L p)) ∧ (L p = 59 → STM L s p) := by
  unfold RNV at h
  rcases h with ⟨e, h⟩ | ⟨e, h⟩ | ⟨e, h⟩ | ⟨e, h⟩ | ⟨e, h⟩ | ⟨e, h⟩ | ⟨e, h⟩
  · subst e; subst h
    rw [lsp_0] at h9 ⊢
    by_cases a : L s = 109 ∨ L s = 108
    · rw [if_pos a, if_neg (by omega)]; exact ⟨Or.inr (Or.inl ⟨rfl, rfl, a⟩), fun z => by omega⟩
    · rw [if_neg a] at h9 ⊢
      by_cases b : L s = 99
      · rw [if_pos b, if_neg (by omega)]; exact ⟨Or.inr (Or.inr (Or.inr (Or.inr (Or.inr (Or.inl ⟨rfl, rfl, b⟩))))), fun z => by omega⟩
      · rw [if_neg b] at h9; exact absurd rfl h9
  · subst e; obtain ⟨h1, h2⟩ := h
    rw [lsp_1] at h9 ⊢
    by_cases a : 48 ≤ L p ∧ L p ≤ 57
    · rw [if_pos a, if_neg (by omega)]; subst h1; exact ⟨Or.inr (Or.inr (Or.inl ⟨rfl, rfl, h2, a⟩)), fun z => by omega⟩
    · rw [if_neg a] at h9; exact absurd rfl h9
  · subst e; obtain ⟨h1, h2, h3⟩ := h
    rw [lsp_2] at h9 ⊢
    by_cases a : 48 ≤ L p ∧ L p ≤ 57
    · rw [if_pos a, if_neg (by omega)]; subst h1; exact ⟨Or.inr (Or.inr (Or.inr (Or.inl ⟨rfl, rfl, h2, h3, a⟩))), fun z => by omega⟩
    · rw [if_neg a] at h9; exact absurd rfl h9
  · subst e; obtain ⟨h1, h2, h3, h4⟩ := h
    rw [lsp_3] at h9 ⊢
    by_cases a : 48 ≤ L p ∧ L p ≤ 57
    · rw [if_pos a, if_neg (by omega)]; subst h1; exact ⟨Or.inr (Or.inr (Or.inr (Or.inr (Or.inl ⟨rfl, Or.inl ⟨rfl, h2, h3, h4, a⟩⟩)))), fun z => by omega⟩
    · rw [if_neg a] at h9; exact absurd rfl h9
  · subst e
    rw [lsp_4] at h9 ⊢
    by_cases a : L p = 59
    · rw [if_pos a, if_pos a]
      refine ⟨Or.inl ⟨rfl, rfl⟩, fun _ => ?_⟩
      rcases h with ⟨h1, h2⟩ | ⟨h1, h2, h3⟩
      · exact Or.inl ⟨h2.1, h1, h2.2⟩
      · exact Or.inr ⟨h2, Or.inr ⟨h1, h3⟩⟩
    · rw [if_neg a] at h9; exact absurd rfl h9
  · subst e; obtain ⟨h1, h2⟩ := h
    rw [lsp_5] at h9 ⊢
    by_cases a : 48 ≤ L p ∧ L p ≤ 57
    · rw [if_pos a, if_neg (by omega)]; subst h1; exact ⟨Or.inr (Or.inr (Or.inr (Or.inr (Or.inr (Or.inr ⟨rfl, rfl, h2, a⟩))))), fun z => by omega⟩
    · rw [if_neg a] at h9; exact absurd rfl h9
  · subst e; obtain ⟨h1, h2, h3⟩ := h
    rw [lsp_6] at h9 ⊢
    by_cases a : 48 ≤ L p ∧ L p ≤ 57
    · rw [if_pos a, if_neg (by omega)]; subst h1; exact ⟨Or.inr (Or.inr (Or.inr (Or.inr (Or.inl ⟨rfl, Or.inr ⟨rfl, h2, h3, a⟩⟩)))), fun z => by omega⟩
    · rw [if_neg a] at h9 ⊢
      by_cases b : L p = 59
      · rw [if_pos b, if_pos b]; exact ⟨Or.inl ⟨rfl, rfl⟩, fun _ => Or.inr ⟨h2, Or.inl ⟨h1, h3⟩⟩⟩
      · rw [if_neg b] at h9; exact absurd rfl h9
theorem RNV_r {L : Nat → Nat} : ∀ p, lrn L p ≠ 9 → RNV L (lst L p) p (lrn L p)
  | 0, _ => Or.inl ⟨rfl, rfl⟩
  | p + 1, h => (RNV_s (RNV_r p (lrn_le h (by omega))) h).1
theorem STM_r {L : Nat → Nat} {z e : Nat} (h : lrn L z ≠ 9) (he : e < z) (hs : L e = 59) : STM L (lst L e) e := (RNV_s (RNV_r e (lrn_le h (by omega))) (lrn_le (p := e + 1) h (by omega))).2 hs
/-- the class's three marks and the scanner's state -/
def CST (q : Nat) (is mu ma : Int32) : Prop := (q = 0 ∧ is = 1) ∨ (q = 1 ∧ is = 0 ∧ mu = 3 ∧ ma = 0) ∨ (q = 2 ∧ is = 0 ∧ mu = 2 ∧ ma = 0) ∨ (q = 3 ∧ is = 0 ∧ mu = 1 ∧ ma = 0) ∨ (q = 4 ∧ is = 0 ∧ mu = 0 ∧ ma = 0) ∨ (q = 5 ∧ is = 0 ∧ mu = 1 ∧ ma = 1) ∨ (q = 6 ∧ is = 0 ∧ mu = 0 ∧ ma = 1)
theorem CST_0 {q : Nat} {is mu ma : Int32} (h : CST q is mu ma) (hi : ¬ is = 0) : q = 0 := by
  rcases h with h | h | h | h | h | h | h
  · exact h.1
  all_goals exact absurd h.2.1 hi
theorem dig_b {x : Nat} (hx : x ≤ 255) {r : Int32} (h : r = if nI x < 48 then 0 else if 57 < nI x then 0 else 1) : (r = 0 → ¬ (48 ≤ x ∧ x ≤ 57)) ∧ (¬ r = 0 → 48 ≤ x ∧ x ≤ 57) := by
  have e1 : nI x < 48 ↔ x < 48 := nI_ltI (b := 48) (by omega) (by omega)
  have e2 : (57 : Int32) < nI x ↔ 57 < x := nI_ltI (a := 57) (by omega) (by omega)
  constructor
  · intro hr q
    rw [if_neg (fun z => by have := e1.mp z; omega), if_neg (fun z => by have := e2.mp z; omega), hr] at h
    exact absurd h (by decide)
  · intro hr
    by_cases a : nI x < 48
    · rw [if_pos a] at h; exact absurd h hr
    · by_cases b : (57 : Int32) < nI x
      · rw [if_neg a, if_pos b] at h; exact absurd h hr
      · exact ⟨Nat.le_of_not_lt fun z => a (e1.mpr z), Nat.le_of_not_lt fun z => b (e2.mpr z)⟩
theorem cst_s {q x : Nat} {mu ma : Int32} (h : CST q 0 mu ma) : (48 ≤ x ∧ x ≤ 57 → 0 < mu → CST (lsp q x) 0 (mu + (-1)) ma) ∧ (48 ≤ x ∧ x ≤ 57 → ¬ 0 < mu → 0 < ma → CST (lsp q x) 0 mu (ma + (-1))) ∧ (¬ (48 ≤ x ∧ x ≤ 57 ∧ (0 < mu ∨ 0 < ma)) → x = 59 → mu = 0 → CST (lsp q x) 1 mu ma) ∧ (¬ (48 ≤ x ∧ x ≤ 57 ∧ (0 < mu ∨ 0 < ma)) → ¬ (x = 59 ∧ mu = 0) → lsp q x = 9) := by
  unfold CST at h
  rcases h with ⟨e, h⟩ | ⟨e, -, h1, h2⟩ | ⟨e, -, h1, h2⟩ | ⟨e, -, h1, h2⟩ | ⟨e, -, h1, h2⟩ | ⟨e, -, h1, h2⟩ | ⟨e, -, h1, h2⟩
  · exact absurd h (by decide)
  · subst e; subst h1; subst h2
    refine ⟨fun a _ => ?_, fun _ b => absurd (by decide) b, fun _ _ b => absurd b (by decide), fun a _ => ?_⟩
    · rw [lsp_1, if_pos a]; exact Or.inr (Or.inr (Or.inl ⟨rfl, rfl, rfl, rfl⟩))
    · rw [lsp_1, if_neg (fun z => a ⟨z.1, z.2, Or.inl (by decide)⟩)]
  · subst e; subst h1; subst h2
    refine ⟨fun a _ => ?_, fun _ b => absurd (by decide) b, fun _ _ b => absurd b (by decide), fun a _ => ?_⟩
    · rw [lsp_2, if_pos a]; exact Or.inr (Or.inr (Or.inr (Or.inl ⟨rfl, rfl, rfl, rfl⟩)))
    · rw [lsp_2, if_neg (fun z => a ⟨z.1, z.2, Or.inl (by decide)⟩)]
  · subst e; subst h1; subst h2
    refine ⟨fun a _ => ?_, fun _ b => absurd (by decide) b, fun _ _ b => absurd b (by decide), fun a _ => ?_⟩
    · rw [lsp_3, if_pos a]; exact Or.inr (Or.inr (Or.inr (Or.inr (Or.inl ⟨rfl, rfl, rfl, rfl⟩))))
    · rw [lsp_3, if_neg (fun z => a ⟨z.1, z.2, Or.inl (by decide)⟩)]
  · subst e; subst h1; subst h2
    refine ⟨fun _ b => absurd b (by decide), fun _ _ b => absurd b (by decide), fun _ b _ => ?_, fun _ b => ?_⟩
    · rw [lsp_4, if_pos b]; exact Or.inl ⟨rfl, rfl⟩
    · rw [lsp_4, if_neg (fun z => b ⟨z, rfl⟩)]
  · subst e; subst h1; subst h2
    refine ⟨fun a _ => ?_, fun _ b => absurd (by decide) b, fun _ _ b => absurd b (by decide), fun a _ => ?_⟩
    · rw [lsp_5, if_pos a]; exact Or.inr (Or.inr (Or.inr (Or.inr (Or.inr (Or.inr ⟨rfl, rfl, rfl, rfl⟩)))))
    · rw [lsp_5, if_neg (fun z => a ⟨z.1, z.2, Or.inl (by decide)⟩)]
  · subst e; subst h1; subst h2
    refine ⟨fun _ b => absurd b (by decide), fun a _ _ => ?_, fun a b _ => ?_, fun a b => ?_⟩
    · rw [lsp_6, if_pos a]; exact Or.inr (Or.inr (Or.inr (Or.inr (Or.inl ⟨rfl, rfl, rfl, rfl⟩))))
    · rw [lsp_6, if_neg (by omega), if_pos b]; exact Or.inl ⟨rfl, rfl⟩
    · rw [lsp_6, if_neg (fun z => a ⟨z.1, z.2, Or.inr (by decide)⟩), if_neg (fun z => b ⟨z, rfl⟩)]
theorem cst_st0 {x : Nat} (hx : x ≤ 255) {mu ma : Int32} (hm : mu = if nI x = 109 ∨ nI x = 108 then 3 else if nI x = 99 then 1 else 0) (ha : ma = if nI x = 99 then 1 else 0) : (¬ mu = 0 → CST (lsp 0 x) 0 mu ma) ∧ (mu = 0 → lsp 0 x = 9) := by
  have e1 : nI x = 109 ↔ x = 109 := nI_eq (b := 109) (by omega) (by omega)
  have e2 : nI x = 108 ↔ x = 108 := nI_eq (b := 108) (by omega) (by omega)
  have e3 : nI x = 99 ↔ x = 99 := nI_eq (b := 99) (by omega) (by omega)
  rw [lsp_0]
  by_cases a : x = 109 ∨ x = 108
  · rw [if_pos (a.elim (fun z => Or.inl (e1.mpr z)) (fun z => Or.inr (e2.mpr z)))] at hm
    rw [if_neg (fun z => by have := e3.mp z; omega)] at ha
    rw [if_pos a]
    exact ⟨fun _ => Or.inr (Or.inl ⟨rfl, rfl, hm, ha⟩), fun z => by rw [hm] at z; exact absurd z (by decide)⟩
  · rw [if_neg (fun z => a (z.elim (fun y => Or.inl (e1.mp y)) (fun y => Or.inr (e2.mp y))))] at hm
    rw [if_neg a]
    by_cases b : x = 99
    · rw [if_pos (e3.mpr b)] at hm ha
      rw [if_pos b]
      exact ⟨fun _ => Or.inr (Or.inr (Or.inr (Or.inr (Or.inr (Or.inl ⟨rfl, rfl, hm, ha⟩))))), fun z => by rw [hm] at z; exact absurd z (by decide)⟩
    · rw [if_neg (fun z => b (e3.mp z))] at hm
      rw [if_neg b]
      exact ⟨fun z => absurd hm z, fun _ => rfl⟩

end

section
/-! 80.lett2 -/
/-- what comes of the letters -/
def lC (L : Nat → Nat) (s e : Nat) : Nat := if e = s + 3 then 10 * (L (s + 1) - 48) + (L (s + 2) - 48) else L (s + 1) - 48
def tUp (f : Nat → Nat) (k v j : Nat) : Nat := if j = k then v else f j
def tM (L : Nat → Nat) (n o : Nat) (K : Nat → Nat) : Nat → Nat → Nat
  | 0 => K
  | p + 1 => if L p = 59 ∧ L (lst L p) = 109 then tUp (tM L n o K p) (n + cm L p) (L (lst L p + o) - 48) else tM L n o K p
def tS (L : Nat → Nat) (S5 : Nat → Nat) : Nat → Nat → Nat
  | 0 => S5
  | p + 1 => if L p = 59 then (if L (lst L p) = 109 then tS L S5 p else if L (lst L p) = 108 then tUp (tUp (tUp (tS L S5 p) 1 (L (lst L p + 1) - 48)) 2 (L (lst L p + 2) - 48)) 3 (L (lst L p + 3) - 48) else tUp (tS L S5 p) 0 (lC L (lst L p) p)) else tS L S5 p
def scn (L : Nat → Nat) : Nat → Nat
  | 0 => 0
  | p + 1 => scn L p + (if L p = 59 then 1 else 0)
abbrev RGQ (L : Nat → Nat) (s m : Nat) (dn : Int32) : Prop := (L s = 109 → L (s + 1) - 48 ≤ 6 ∧ 1 ≤ L (s + 3) - 48 ∧ m ≤ 8 ∧ dn = 0) ∧ (L s = 108 → L (s + 1) - 48 ≤ 2 ∧ L (s + 2) - 48 ≤ 1 ∧ L (s + 3) - 48 ≤ 1)
abbrev RGS (L : Nat → Nat) (n : Nat) (dn : Int32) (e : Nat) : Prop := RGQ L (lst L e) (n + cm L (e + 1)) dn
def fwr (L : Nat → Nat) (n : Nat) (dn : Int32) : Nat → Nat → Int32
  | _, 0 => -9
  | p, k + 1 => if L p = 59 ∧ ¬ RGS L n dn p then nI (lst L p) else fwr L n dn (p + 1) k
theorem fwr_s {L : Nat → Nat} {n : Nat} {dn : Int32} {p z : Nat} (h : p < z) : fwr L n dn p (z - p) = if L p = 59 ∧ ¬ RGS L n dn p then nI (lst L p) else fwr L n dn (p + 1) (z - (p + 1)) := by
  rw [show z - p = (z - (p + 1)) + 1 by omega]; rfl
theorem nI_n9 {k : Nat} (h : k ≤ 64) : ¬ nI k = -9 := fun q => absurd (show nI k < 0 by rw [q]; decide) (nI_pos (by omega))
theorem nI_n9' {k : Nat} (h : k ≤ 64) : ¬ nI k < 0 := nI_pos (by omega)
theorem fwr_9 {L : Nat → Nat} {n : Nat} {dn : Int32} : ∀ (k p : Nat), p + k ≤ 64 → fwr L n dn p k = -9 → ∀ e, p ≤ e → e < p + k → L e = 59 → RGS L n dn e
  | 0, p, _, _, e, h1, h2, _ => by omega
  | k + 1, p, hz, h, e, h1, h2, h3 => by
    unfold fwr at h
    by_cases q : L p = 59 ∧ ¬ RGS L n dn p
    · rw [if_pos q] at h; exact absurd h (nI_n9 (by have := lst_le L p; omega))
    · rw [if_neg q] at h
      by_cases e2 : e = p
      · subst e2; exact Classical.byContradiction fun z => q ⟨h3, z⟩
      · exact fwr_9 k (p + 1) (by omega) h e (by omega) (by omega) h3
theorem fwr_b {L : Nat → Nat} {n : Nat} {dn : Int32} : ∀ (k p : Nat), p + k ≤ 64 → fwr L n dn p k = -9 ∨ ∃ j, j < 64 ∧ fwr L n dn p k = nI j
  | 0, p, _ => Or.inl rfl
  | k + 1, p, hz => by
    unfold fwr
    by_cases q : L p = 59 ∧ ¬ RGS L n dn p
    · rw [if_pos q]; exact Or.inr ⟨_, by have := lst_le L p; omega, rfl⟩
    · rw [if_neg q]; exact fwr_b k (p + 1) (by omega)
theorem fps_b (L : Nat → Nat) : ∀ (k p : Nat), p ≤ fps L p k ∧ fps L p k ≤ p + k
  | 0, p => ⟨Nat.le_refl _, Nat.le_refl _⟩
  | k + 1, p => by
    unfold fps
    by_cases q : lrn L (p + 1) = 9
    · rw [if_pos q]; omega
    · rw [if_neg q]; have := fps_b L k (p + 1); omega
abbrev BOK (L : Nat → Nat) (lz n : Nat) (dn : Int32) : Prop := (lrn L lz = 0 ∧ 0 < lz) ∧ fwr L n dn 0 lz = -9
def brR (L : Nat → Nat) (lz : Nat) : Int32 := if lrn L lz = 0 ∧ 0 < lz then -9 else nI (fps L 0 lz)
def flR (L : Nat → Nat) (lz n : Nat) (dn : Int32) : Int32 := if lrn L lz = 0 ∧ 0 < lz then (if fwr L n dn 0 lz = -9 then 0 else -2000 - fwr L n dn 0 lz) else -1000 - nI (fps L 0 lz)
def bcR (L : Nat → Nat) (lz n : Nat) (dn : Int32) : Int32 := if BOK L lz n dn then nI (scn L lz) else flR L lz n dn
def bcN (L : Nat → Nat) (lz n : Nat) (dn : Int32) : Nat := if BOK L lz n dn then n + cm L lz else n
def bcM (L : Nat → Nat) (lz n : Nat) (dn : Int32) (o : Nat) (K : Nat → Nat) : Nat → Nat := if BOK L lz n dn then tM L n o K lz else K
def bcS (L : Nat → Nat) (lz n : Nat) (dn : Int32) (S5 : Nat → Nat) : Nat → Nat := if BOK L lz n dn then tS L S5 lz else S5
theorem flR_0 {L : Nat → Nat} {lz n : Nat} {dn : Int32} (hz : lz ≤ 64) : flR L lz n dn = 0 ↔ BOK L lz n dn := by
  unfold flR BOK
  by_cases h : lrn L lz = 0 ∧ 0 < lz
  · rw [if_pos h]
    rcases fwr_b (L := L) (n := n) (dn := dn) lz 0 (by omega) with q | ⟨j, j1, j2⟩
    · rw [if_pos q]; exact ⟨fun _ => ⟨h, q⟩, fun _ => rfl⟩
    · rw [if_neg (by rw [j2]; exact nI_n9 (by omega)), j2]
      refine ⟨fun z => absurd z ?_, fun z => absurd z.2 (nI_n9 (by omega))⟩
      rw [show (-2000 : Int32) = iI (-2000) from rfl, nI_iI, iI_sub]
      intro z
      have := (iI_eq (a := -2000 - (j : Int)) (b := 0) (by unfold sm; omega) (by unfold sm; omega)).mp z
      omega
  · rw [if_neg h]
    refine ⟨fun z => absurd z ?_, fun z => absurd z.1 h⟩
    have := fps_b L lz 0
    rw [show (-1000 : Int32) = iI (-1000) from rfl, nI_iI, iI_sub]
    intro z
    have := (iI_eq (a := -1000 - (fps L 0 lz : Int)) (b := 0) (by unfold sm; omega) (by unfold sm; omega)).mp z
    omega
theorem dgv {x : Nat} (h : dig x) : nI x - 48 = nI (x - 48) := pk_sub (a := x) (b := 48) h.1
theorem dg_ne {x : Nat} (h : dig x) : ¬ x = 59 ∧ ¬ x = 109 ∧ ¬ x = 108 ∧ ¬ x = 99 := by unfold dig at h; omega
theorem lst_no {L : Nat → Nat} {p : Nat} (h : ¬ L p = 59) : lst L (p + 1) = lst L p := if_neg h
theorem lst_y {L : Nat → Nat} {p : Nat} (h : L p = 59) : lst L (p + 1) = p + 1 := if_pos h
theorem cm_no {L : Nat → Nat} {p : Nat} (h : ¬ (L p = 59 ∧ L (lst L p) = 109)) : cm L (p + 1) = cm L p := by show cm L p + _ = _; rw [if_neg h, Nat.add_zero]
theorem cm_y {L : Nat → Nat} {p : Nat} (h : L p = 59) (h2 : L (lst L p) = 109) : cm L (p + 1) = cm L p + 1 := by show cm L p + _ = _; rw [if_pos ⟨h, h2⟩]
theorem tM_no {L K : Nat → Nat} {n o p : Nat} (h : ¬ (L p = 59 ∧ L (lst L p) = 109)) : tM L n o K (p + 1) = tM L n o K p := if_neg h
theorem tM_y {L K : Nat → Nat} {n o p : Nat} (h : L p = 59) (h2 : L (lst L p) = 109) : tM L n o K (p + 1) = tUp (tM L n o K p) (n + cm L p) (L (lst L p + o) - 48) := if_pos ⟨h, h2⟩
theorem tS_no {L S5 : Nat → Nat} {p : Nat} (h : ¬ L p = 59) : tS L S5 (p + 1) = tS L S5 p := if_neg h
theorem tS_m {L S5 : Nat → Nat} {p : Nat} (h : L p = 59) (h2 : L (lst L p) = 109) : tS L S5 (p + 1) = tS L S5 p := by show (if L p = 59 then _ else _) = _; rw [if_pos h, if_pos h2]
theorem tS_l {L S5 : Nat → Nat} {p : Nat} (h : L p = 59) (h2 : L (lst L p) = 108) : tS L S5 (p + 1) = tUp (tUp (tUp (tS L S5 p) 1 (L (lst L p + 1) - 48)) 2 (L (lst L p + 2) - 48)) 3 (L (lst L p + 3) - 48) := by show (if L p = 59 then _ else _) = _; rw [if_pos h, if_neg (by omega), if_pos h2]
theorem tS_c {L S5 : Nat → Nat} {p : Nat} (h : L p = 59) (h2 : L (lst L p) = 99) : tS L S5 (p + 1) = tUp (tS L S5 p) 0 (lC L (lst L p) p) := by show (if L p = 59 then _ else _) = _; rw [if_pos h, if_neg (by omega), if_neg (by omega)]
theorem scn_no {L : Nat → Nat} {p : Nat} (h : ¬ L p = 59) : scn L (p + 1) = scn L p := by show scn L p + _ = _; rw [if_neg h, Nat.add_zero]
theorem scn_y {L : Nat → Nat} {p : Nat} (h : L p = 59) : scn L (p + 1) = scn L p + 1 := by show scn L p + _ = _; rw [if_pos h]
theorem cm_le (L : Nat → Nat) : ∀ p, cm L p ≤ p
  | 0 => Nat.le_refl 0
  | p + 1 => by
    show cm L p + _ ≤ p + 1
    have := cm_le L p
    split <;> omega
theorem scn_le (L : Nat → Nat) : ∀ p, scn L p ≤ p
  | 0 => Nat.le_refl 0
  | p + 1 => by
    show scn L p + _ ≤ p + 1
    have := scn_le L p
    split <;> omega
/-- the evening as it comes of the letters before p -/
abbrev EVT (L : Nat → Nat) (p n sn : Nat) (dn : Int32) (K F W S5 : Nat → Nat) (kf ff wf stf : Nat → Int32) : Prop := EVS (n + cm L p) sn dn (tM L n 1 K p) (tM L n 2 F p) (tM L n 3 W p) (tS L S5 p) kf ff wf stf
theorem EVT_no {L : Nat → Nat} {p n sn : Nat} {dn : Int32} {K F W S5 : Nat → Nat} {kf ff wf stf : Nat → Int32} (h : EVT L p n sn dn K F W S5 kf ff wf stf) (hp : ¬ L p = 59) : EVT L (p + 1) n sn dn K F W S5 kf ff wf stf := by
  unfold EVT
  rw [cm_no (fun q => hp q.1), tM_no (fun q => hp q.1), tM_no (fun q => hp q.1), tM_no (fun q => hp q.1), tS_no hp]
  exact h
theorem EVT_m {L : Nat → Nat} {p n sn : Nat} {dn : Int32} {K F W S5 : Nat → Nat} {kf ff wf stf kf2 ff2 wf2 : Nat → Int32} (h : EVT L p n sn dn K F W S5 kf ff wf stf) (hp : L p = 59) (hm : L (lst L p) = 109) (hst : STM L (lst L p) p) (hr : RGS L n dn p) (hk : kf2 = upd kf (n + cm L p) (nI (L (lst L p + 1) - 48))) (hf : ff2 = upd ff (n + cm L p) (nI (L (lst L p + 2) - 48))) (hw : wf2 = upd wf (n + cm L p) (nI (L (lst L p + 3) - 48))) : EVT L (p + 1) n sn dn K F W S5 kf2 ff2 wf2 stf := by
  have hs : dig (L (lst L p + 1)) ∧ dig (L (lst L p + 2)) ∧ dig (L (lst L p + 3)) := by
    rcases hst with q | q
    · exact q.2.2
    · exact absurd q.1 (by omega)
  obtain ⟨r1, r2, r3, r4⟩ := hr.1 hm
  obtain ⟨⟨e1, e2, e3, e4⟩, f1, f2, f3, f4⟩ := h
  unfold EVT
  rw [tM_y hp hm, tM_y hp hm, tM_y hp hm, tS_m hp hm]
  have hc := cm_y hp hm
  obtain ⟨⟨d1, d1'⟩, ⟨d2, d2'⟩, ⟨d3, d3'⟩⟩ := hs
  refine ⟨⟨r3, e2, e3, fun j hj => ?_⟩, f1, f2, by omega, f4⟩
  unfold tUp
  rw [hk, hf, hw]
  by_cases e : j = n + cm L p
  · rw [if_pos e, if_pos e, if_pos e, e, pk_us, pk_us, pk_us]
    exact ⟨⟨rfl, r1⟩, ⟨rfl, by omega⟩, ⟨rfl, r2, by omega⟩⟩
  · rw [if_neg e, if_neg e, if_neg e, pk_un e, pk_un e, pk_un e]
    exact e4 j (by omega)
theorem EVT_l {L : Nat → Nat} {p n sn : Nat} {dn : Int32} {K F W S5 : Nat → Nat} {kf ff wf stf stf2 : Nat → Int32} (h : EVT L p n sn dn K F W S5 kf ff wf stf) (hp : L p = 59) (hm : L (lst L p) = 108) (hr : RGS L n dn p) (hs : stf2 = upd (upd (upd stf 1 (nI (L (lst L p + 1) - 48))) 2 (nI (L (lst L p + 2) - 48))) 3 (nI (L (lst L p + 3) - 48))) : EVT L (p + 1) n sn dn K F W S5 kf ff wf stf2 := by
  obtain ⟨r1, r2, r3⟩ := hr.2 hm
  obtain ⟨⟨e1, e2, e3, e4⟩, f1, f2, f3, f4⟩ := h
  unfold EVT
  have hn : ¬ (L p = 59 ∧ L (lst L p) = 109) := by omega
  rw [cm_no hn, tM_no hn, tM_no hn, tM_no hn, tS_l hp hm]
  refine ⟨⟨e1, e2, ?_, e4⟩, fun k hk => ?_, ⟨?_, ?_, ?_, f2.2.2.2⟩, f3, f4⟩
  · rw [hs, pk_un (by omega), pk_un (by omega), pk_un (by omega)]; exact e3
  · rw [hs]; unfold tUp
    by_cases q3 : k = 3
    · rw [if_pos q3, q3, pk_us]
    · rw [if_neg q3, pk_un q3]
      by_cases q2 : k = 2
      · rw [if_pos q2, q2, pk_us]
      · rw [if_neg q2, pk_un q2]
        by_cases q1 : k = 1
        · rw [if_pos q1, q1, pk_us]
        · rw [if_neg q1, pk_un q1]; exact f1 k hk
  · exact r1
  · exact r2
  · exact r3
theorem lC_le {L : Nat → Nat} {s e : Nat} (h : STM L s e) (hm : L s = 99) : lC L s e ≤ 99 := by
  unfold lC
  rcases h with h | ⟨-, ⟨h1, h2⟩ | ⟨h1, h2, h3⟩⟩
  · exfalso; have := h.1; omega
  · rw [if_neg (by omega)]; unfold dig at h2; omega
  · rw [if_pos (by omega)]; unfold dig at h2 h3; omega
theorem EVT_c {L : Nat → Nat} {p n sn : Nat} {dn : Int32} {K F W S5 : Nat → Nat} {kf ff wf stf stf2 : Nat → Int32} (h : EVT L p n sn dn K F W S5 kf ff wf stf) (hp : L p = 59) (hm : L (lst L p) = 99) (hst : STM L (lst L p) p) (hs : stf2 = upd stf 0 (nI (lC L (lst L p) p))) : EVT L (p + 1) n sn dn K F W S5 kf ff wf stf2 := by
  obtain ⟨⟨e1, e2, e3, e4⟩, f1, f2, f3, f4⟩ := h
  unfold EVT
  have hn : ¬ (L p = 59 ∧ L (lst L p) = 109) := by omega
  rw [cm_no hn, tM_no hn, tM_no hn, tM_no hn, tS_c hp hm]
  refine ⟨⟨e1, lC_le hst hm, ?_, e4⟩, fun k hk => ?_, f2, f3, f4⟩
  · rw [hs, pk_us]; rfl
  · rw [hs]; unfold tUp
    by_cases q1 : k = 0
    · rw [if_pos q1, q1, pk_us]
    · rw [if_neg q1, pk_un q1]; exact f1 k hk
theorem STM_k {L : Nat → Nat} {s e : Nat} (h : STM L s e) : (L s = 109 ∨ L s = 108 ∨ L s = 99) ∧ s < e := by
  rcases h with h | ⟨h, h2⟩
  · exact ⟨h.1.elim Or.inl (fun q => Or.inr (Or.inl q)), by omega⟩
  · exact ⟨Or.inr (Or.inr h), by omega⟩
theorem STM_d {L : Nat → Nat} {s e : Nat} (h : STM L s e) (hm : L s = 109 ∨ L s = 108) : e = s + 4 ∧ dig (L (s + 1)) ∧ dig (L (s + 2)) ∧ dig (L (s + 3)) := by
  rcases h with h | ⟨h, h2⟩
  · exact h.2
  · omega
theorem STM_c {L : Nat → Nat} {s e : Nat} (h : STM L s e) (hm : L s = 99) : (e = s + 2 ∧ dig (L (s + 1))) ∨ (e = s + 3 ∧ dig (L (s + 1)) ∧ dig (L (s + 2))) := by
  rcases h with h | ⟨h, h2⟩
  · exfalso; have := h.1; omega
  · exact h2
/-- feed -/
def feA (lz : Nat) (v : Int32) : Prop := ¬ v < 0 ∧ ¬ 255 < v ∧ lz < 64
def feR (lz : Nat) (v : Int32) : Int32 := if v < 0 then -4 else if 255 < v then -6 else if 64 ≤ lz then -6 else nI (lz + 1)
def feZ (lz : Nat) (v : Int32) : Nat := if v < 0 then lz else if 255 < v then lz else if 64 ≤ lz then lz else lz + 1
def feL (L : Nat → Nat) (lz : Nat) (v : Int32) : Nat → Nat := tUp L lz v.toNatClampNeg
theorem fe_v {v : Int32} (h0 : ¬ v < 0) (h1 : ¬ 255 < v) : ∃ x, x ≤ 255 ∧ v = nI x := by
  obtain ⟨x, x1, x2⟩ := ix_of (n := 256) (by omega) h0 (fun z => h1 (Int32.lt_of_lt_of_le (by decide) z))
  exact ⟨x, by omega, x2⟩
theorem vc_n {q : Nat} (h : q < 65536) : vp_nar .char (nI q) = nI q := by
  unfold vp_nar
  rw [(pk_charN h).1]
theorem LTR_no {L : Nat → Nat} {lz : Nat} {sg : Nat → Int32} {v : Int32} (h : LTR lz L sg) (hn : ¬ feA lz v) : feZ lz v = lz ∧ LTR (feZ lz v) (feL L lz v) sg := by
  have e : feZ lz v = lz := by
    unfold feZ
    by_cases a : v < 0
    · rw [if_pos a]
    · by_cases b : 255 < v
      · rw [if_neg a, if_pos b]
      · by_cases d : 64 ≤ lz
        · rw [if_neg a, if_neg b, if_pos d]
        · exact absurd ⟨a, b, by omega⟩ hn
  rw [e]
  refine ⟨rfl, h.1, fun k hk => ?_⟩
  unfold feL tUp
  rw [if_neg (by omega)]
  exact h.2 k hk
theorem LTR_y {L : Nat → Nat} {lz : Nat} {sg sg2 : Nat → Int32} {v : Int32} (h : LTR lz L sg) (hn : feA lz v) (h2 : sg2 = upd sg lz v) : feZ lz v = lz + 1 ∧ LTR (feZ lz v) (feL L lz v) sg2 ∧ feR lz v = nI (lz + 1) := by
  obtain ⟨a, b, d⟩ := hn
  have e : feZ lz v = lz + 1 := by unfold feZ; rw [if_neg a, if_neg b, if_neg (by omega)]
  rw [e]
  refine ⟨rfl, ⟨by omega, fun k hk => ?_⟩, by unfold feR; rw [if_neg a, if_neg b, if_neg (by omega)]⟩
  unfold feL tUp
  rw [h2]
  obtain ⟨x, x1, x2⟩ := fe_v a b
  by_cases q : k = lz
  · rw [if_pos q, q, pk_us, x2, nI_clamp (by omega)]; exact ⟨rfl, x1⟩
  · rw [if_neg q, pk_un q]; exact h.2 k (by omega)
theorem cst_9 {q : Nat} {a b d : Int32} (h : CST q a b d) : q ≠ 9 := by
  unfold CST at h; omega
theorem cst_n {q : Nat} {b d : Int32} (h : CST q 0 b d) : q ≠ 0 := by
  rcases h with ⟨-, h⟩ | h | h | h | h | h | h
  · exact absurd h (by decide)
  all_goals omega
theorem cst_f {L : Nat → Nat} {lz p : Nat} {a b d : Int32} (hf : fps L 0 lz = fps L p (lz - p)) (hp : p < lz) (h : CST (lrn L (p + 1)) a b d) : fps L 0 lz = fps L (p + 1) (lz - (p + 1)) := by
  rw [hf, fps_s hp, if_neg (cst_9 h)]
theorem cst_r {L : Nat → Nat} {lz p : Nat} (hf : fps L 0 lz = fps L p (lz - p)) (hp : p < lz) (h : lrn L (p + 1) = 9) : nI p = brR L lz := by
  unfold brR
  rw [if_neg (fun z => lrn_le (p := p + 1) (z := lz) (by rw [z.1]; decide) (by omega) h), hf, fps_s hp, if_pos h]
theorem nI_b0 {x : Nat} {k : Nat} (hx : x ≤ 255) (hk : k ≤ 255) : nI x = nI k ↔ x = k := nI_eq (by omega) (by omega)
theorem lc_v {a b : Nat} (ha : dig a) (hb : dig b) : (nI a - 48) * 10 + (nI b - 48) = nI (10 * (a - 48) + (b - 48)) := by
  rw [dgv ha, dgv hb, show (10 : Int32) = nI 10 from rfl, pk_mul, nI_add, Nat.mul_comm]

end

section
/-! 81.lett3 -/
set_option maxHeartbeats 1000000 in
set_option maxRecDepth 100000 in
/-- X7_isFull -/
theorem c_X7_isFull (l : Launch) (dC : Nat → ClassId) (dI : Nat → Nat → Nat) (aC : Nat → ClassId) (sz : Nat) (xl : Nat) (lsg : Nat) (lz : Nat) (Lt : Nat → Nat) (sg : Nat → Int32) (hlt0 : LTR lz Lt sg) : Met l yX7_isFull (wW yX7_isFull cX7_isFull 1 (some .boolean)) ({ frames := 0, cells := 0, slots := 0, locals := 0 } : Room) (va_Pc [Value.ref xl] (fun U => U.heap.size = sz ∧ va_P (dC, dI) classes [oX7 xl (nI lz) lsg] U.heap ∧ va_K (dC, dI) classes (TY aC) U ∧ va_D (fun _ => True) [oX7 xl (nI lz) lsg] ∧ NX U)) (va_Qi (fun (r : Int32) (_ : Unit) => (r = 0 → lz < 64) ∧ (¬ r = 0 → 64 ≤ lz)) (fun (_ : Unit) (t : State) => va_P (dC, dI) classes [oX7 xl (nI lz) lsg] t.heap ∧ va_K (dC, dI) classes (TY aC) t ∧ va_D (va_A [oX7 xl (nI lz) lsg] sz) [oX7 xl (nI lz) lsg]) (va_A [oX7 xl (nI lz) lsg] sz)) 0 0 (va_A [oX7 xl (nI lz) lsg] sz) := by
  refine Met.ofW (cc := cX7_isFull) (maxL := 1) (ret := (some .boolean)) (by decide) rfl ?_
  intro p e s m args below meth c s₁ B hml hv
  obtain ⟨rfl, hsz, hP, hK, hD0, hN⟩ := hv
  have hx := B.exec
  have hb := B.bytes
  have hr := B.returns
  have hts0 := atoms_spec (ws := (wW yX7_isFull cX7_isFull 1 (some .boolean))) B.pre
  have hts : ∀ w9 ∈ lw_G, w9.before ([Value.ref xl] : List Value).toArray s = true := fun w9 h9 => hts0 w9 (List.mem_cons_of_mem _ h9)
  have hown : s.vm.findClass RX7 = some m.cls := findClass_of_methodNamed (x := yX7_isFull) B.named
  have hlocks := B.notSynchronized
  subst hsz
  have hD := hD0.self (sz := s.heap.size)
  generalize hAe : va_A [oX7 xl (nI lz) lsg] s.heap.size = A at hD ⊢
  have hA : ∀ q : Nat, s.heap.size ≤ q → A q := fun q h => by rw [← hAe]; exact Or.inr h
  obtain ⟨H, hHe⟩ : ∃ H : Heap, H = s.heap := ⟨_, rfl⟩
  have hS : va_S A s.heap H [] := by rw [hHe]; exact va_S.rf
  have hP : va_P (dC, dI) classes [oX7 xl (nI lz) lsg] H := by rw [hHe]; exact hP
  have hl := lv_entry ([Value.ref xl]) (n := 1) (Nat.le_of_ble_eq_true rfl)
  rw [lg_entry_eq]
  generalize (lg_sl ([Value.ref xl]) ++ List.replicate (1 - (lg_sl ([Value.ref xl])).length) Slot.unset).toArray = ls at hl ⊢
  have hl : lv_has ls 1 [(0, Value.ref xl)] := hl
  rw [← hHe]
  have hz6 := hlt0.1
  have hL := hlt0.2
  refine lv_aload_n hx hb dX7_isFull_0 rfl (lv_at hl 0 rfl) ?_
  refine va_get (D := (dC, dI)) (ci := 7) (v := Value.int (nI lz)) (C := RX7) (T := TX7) (N := 2) hx hb hts inX7 hown hK hP 0 rfl rfl 0 (by decide) (hts _ (gw kw_80 rfl)) (fun _ h9 => h9) rfl dX7_isFull_1 ?_
  refine lv_bipush (v := 64) hx hb dX7_isFull_4 (by decide) ?_
  refine lv_icmp_lt (tgt := 13) hx hb dX7_isFull_6 (by decide) (fun c_1 => ?_) (fun c_1 => ?_)
  · refine lv_iconst (v := 0) hx hb dX7_isFull_13 (by decide) ?_
    have hpd9 := pd_N (cx := [oX7 xl (nI lz) lsg]) hP hD [0] (by decide) rfl
    have hP9 := hpd9.1
    have hD9 := hpd9.2
    refine W.widen (k := 0) (n := 0) (by omega) (by omega) ?_
    exact W.zret (v := 0) hx hb hr rfl (fun t ht hW => ⟨⟨0, (), rfl, ⟨fun _ => Nat.lt_of_not_le fun z => absurd (nI_le (a := 64) z (by omega)) (Int32.not_le.mpr c_1), fun q => absurd rfl q⟩, by rw [ht]; exact hP9, va_K.moved hW.alike hK, hD9⟩, hS.F ht⟩) hS.2.2 dX7_isFull_14
  · refine lv_iconst (v := 1) hx hb dX7_isFull_9 (by decide) ?_
    refine lv_goto (tgt := 14) hx hb dX7_isFull_10 (by decide) ?_
    have hpd9 := pd_N (cx := [oX7 xl (nI lz) lsg]) hP hD [0] (by decide) rfl
    have hP9 := hpd9.1
    have hD9 := hpd9.2
    refine W.widen (k := 0) (n := 0) (by omega) (by omega) ?_
    exact W.zret (v := 1) hx hb hr rfl (fun t ht hW => ⟨⟨1, (), rfl, ⟨fun q => absurd q (by decide), fun _ => Nat.le_of_not_lt fun z => c_1 (nI_lt (b := 64) z (by omega))⟩, by rw [ht]; exact hP9, va_K.moved hW.alike hK, hD9⟩, hS.F ht⟩) hS.2.2 dX7_isFull_14

set_option maxHeartbeats 1000000 in
set_option maxRecDepth 100000 in
/-- X7_add -/
theorem c_X7_add (l : Launch) (dC : Nat → ClassId) (dI : Nat → Nat → Nat) (aC : Nat → ClassId) (sz : Nat) (xl : Nat) (lsg : Nat) (lz : Nat) (Lt : Nat → Nat) (sg : Nat → Int32) (x : Int32) (hlz : lz < 64) : Met l yX7_add (wW yX7_add cX7_add 2 (some .int)) ({ frames := 0, cells := 0, slots := 0, locals := 0 } : Room) (va_Pc [Value.ref xl, Value.int x] (fun U => U.heap.size = sz ∧ va_P (dC, dI) classes [oX7 xl (nI lz) lsg, cC aC lsg 64 sg] U.heap ∧ va_K (dC, dI) classes (TY aC) U ∧ va_D (fun _ => True) [oX7 xl (nI lz) lsg, cC aC lsg 64 sg] ∧ NX U)) (va_Qi (fun (r : Int32) (sg2 : Nat → Int32) => r = nI (lz + 1) ∧ sg2 = upd sg lz (vp_nar .char x)) (fun (sg2 : Nat → Int32) (t : State) => va_P (dC, dI) classes [oX7 xl (nI (lz + 1)) lsg, cC aC lsg 64 sg2] t.heap ∧ va_K (dC, dI) classes (TY aC) t ∧ va_D (va_A [oX7 xl (nI lz) lsg, cC aC lsg 64 sg] sz) [oX7 xl (nI (lz + 1)) lsg, cC aC lsg 64 sg2]) (va_A [oX7 xl (nI lz) lsg, cC aC lsg 64 sg] sz)) 0 0 (va_A [oX7 xl (nI lz) lsg, cC aC lsg 64 sg] sz) := by
  refine Met.ofW (cc := cX7_add) (maxL := 2) (ret := (some .int)) (by decide) rfl ?_
  intro p e s m args below meth c s₁ B hml hv
  obtain ⟨rfl, hsz, hP, hK, hD0, hN⟩ := hv
  have hx := B.exec
  have hb := B.bytes
  have hr := B.returns
  have hts0 := atoms_spec (ws := (wW yX7_add cX7_add 2 (some .int))) B.pre
  have hts : ∀ w9 ∈ lw_G, w9.before ([Value.ref xl, Value.int x] : List Value).toArray s = true := fun w9 h9 => hts0 w9 (List.mem_cons_of_mem _ h9)
  have hown : s.vm.findClass RX7 = some m.cls := findClass_of_methodNamed (x := yX7_add) B.named
  have hlocks := B.notSynchronized
  subst hsz
  have hD := hD0.self (sz := s.heap.size)
  generalize hAe : va_A [oX7 xl (nI lz) lsg, cC aC lsg 64 sg] s.heap.size = A at hD ⊢
  have hA : ∀ q : Nat, s.heap.size ≤ q → A q := fun q h => by rw [← hAe]; exact Or.inr h
  obtain ⟨H, hHe⟩ : ∃ H : Heap, H = s.heap := ⟨_, rfl⟩
  have hS : va_S A s.heap H [] := by rw [hHe]; exact va_S.rf
  have hP : va_P (dC, dI) classes [oX7 xl (nI lz) lsg, cC aC lsg 64 sg] H := by rw [hHe]; exact hP
  have hl := lv_entry ([Value.ref xl, Value.int x]) (n := 2) (Nat.le_of_ble_eq_true rfl)
  rw [lg_entry_eq]
  generalize (lg_sl ([Value.ref xl, Value.int x]) ++ List.replicate (2 - (lg_sl ([Value.ref xl, Value.int x])).length) Slot.unset).toArray = ls at hl ⊢
  have hl : lv_has ls 2 [(0, Value.ref xl), (1, Value.int x)] := hl
  rw [← hHe]
  refine lv_aload_n hx hb dX7_add_0 rfl (lv_at hl 0 rfl) ?_
  refine va_get (D := (dC, dI)) (ci := 7) (v := Value.int (nI lz)) (C := RX7) (T := TX7) (N := 2) hx hb hts inX7 hown hK hP 0 rfl rfl 0 (by decide) (hts _ (gw kw_80 rfl)) (fun _ h9 => h9) rfl dX7_add_1 ?_
  refine lv_bipush (v := 64) hx hb dX7_add_4 (by decide) ?_
  refine lv_icmp_ge (tgt := 29) hx hb dX7_add_6 (by decide) (fun c_1 => ?_) (fun c_1 => ?_)
  · exact absurd ((nI_leI (a := 64) (b := lz) (by omega) (by omega)).mp c_1) (by omega)
  · refine lv_aload_n hx hb dX7_add_9 rfl (lv_at hl 0 rfl) ?_
    refine va_get (D := (dC, dI)) (ci := 7) (v := Value.ref lsg) (C := RX7) (T := TX7) (N := 2) hx hb hts inX7 hown hK hP 0 rfl rfl 1 (by decide) (hts _ (gw kw_82 rfl)) (fun _ h9 => h9) rfl dX7_add_10 ?_
    refine lv_aload_n hx hb dX7_add_13 rfl (lv_at hl 0 rfl) ?_
    refine va_get (D := (dC, dI)) (ci := 7) (v := Value.int (nI lz)) (C := RX7) (T := TX7) (N := 2) hx hb hts inX7 hown hK hP 0 rfl rfl 0 (by decide) (hts _ (gw kw_80 rfl)) (fun _ h9 => h9) rfl dX7_add_14 ?_
    refine lv_iload_n hx hb dX7_add_17 rfl (lv_at hl 1 rfl) ?_
    have h_2 : vp_in (nI lz) 64 := vp_in_nI (by omega) (by omega)
    refine va_cast hx hb hK hP hD hS 1 1 rfl rfl h_2 dX7_add_18 (fun H locs hP hD hS => ?_)
    obtain ⟨f_3, e_f_3⟩ : ∃ y : Nat → Int32, y = upd sg (nI lz : Int32).toNatClampNeg (vp_nar .char x) := ⟨_, rfl⟩
    have hpd9 : PDx (dC, dI) classes A H [oX7 xl (nI lz) lsg, cC aC lsg 64 f_3] := by rw [e_f_3]; exact ⟨hP, hD⟩
    have hP := hpd9.1
    have hD := hpd9.2
    clear hpd9
    refine lv_aload_n hx hb dX7_add_19 rfl (lv_at hl 0 rfl) ?_
    refine lv_dup hx hb dX7_add_20 rfl ?_
    refine va_get (D := (dC, dI)) (ci := 7) (v := Value.int (nI lz)) (C := RX7) (T := TX7) (N := 2) hx hb hts inX7 hown hK hP 0 rfl rfl 0 (by decide) (hts _ (gw kw_80 rfl)) (fun _ h9 => h9) rfl dX7_add_21 ?_
    refine lv_iconst (v := 1) hx hb dX7_add_24 (by decide) ?_
    refine lv_iadd hx hb dX7_add_25 ?_
    refine lv_topi (fun x_4 e_4 => ?_)
    have h9 : x_4 = nI (lz + 1) := by rw [e_4, nI_1]
    subst h9
    refine va_put (D := (dC, dI)) (ci := 7) (v := Value.int (nI (lz + 1))) (ty := .int) (C := RX7) (T := TX7) (N := 2) hx hb hts inX7 tyX7 tyX7_ok nmX7 hown hK hP hD hS 0 rfl rfl 0 (by decide) (hts _ (gw kw_80 rfl)) (fun _ h9 => h9) rfl (by decide +kernel) rfl rfl (Nat.le_of_ble_eq_true rfl) dX7_add_26 (fun H locs hP hD hS => ?_)
    have hpd9 : PDx (dC, dI) classes A H [oX7 xl (nI (lz + 1)) lsg, cC aC lsg 64 f_3] := ⟨hP, hD⟩
    have hP := hpd9.1
    have hD := hpd9.2
    clear hpd9
    refine lv_aload_n hx hb dX7_add_29 rfl (lv_at hl 0 rfl) ?_
    refine va_get (D := (dC, dI)) (ci := 7) (v := Value.int (nI (lz + 1))) (C := RX7) (T := TX7) (N := 2) hx hb hts inX7 hown hK hP 0 rfl rfl 0 (by decide) (hts _ (gw kw_80 rfl)) (fun _ h9 => h9) rfl dX7_add_30 ?_
    have hpd9 := pd_N (cx := [oX7 xl (nI (lz + 1)) lsg, cC aC lsg 64 f_3]) hP hD [0, 1] (by decide) rfl
    have hP9 := hpd9.1
    have hD9 := hpd9.2
    refine W.widen (k := 0) (n := 0) (by omega) (by omega) ?_
    exact W.iret (v := nI (lz + 1)) hx hb hr (fun t ht hW => ⟨⟨(nI (lz + 1)), (f_3), rfl, ⟨rfl, by rw [e_f_3, nI_clamp (by omega)]⟩, by rw [ht]; exact hP9, va_K.moved hW.alike hK, hD9⟩, hS.F ht⟩) hS.2.2 dX7_add_33

set_option maxHeartbeats 1000000 in
set_option maxRecDepth 100000 in
/-- X7_forget -/
theorem c_X7_forget (l : Launch) (dC : Nat → ClassId) (dI : Nat → Nat → Nat) (aC : Nat → ClassId) (sz : Nat) (xl : Nat) (lsg : Nat) (lz : Nat) (Lt : Nat → Nat) (sg : Nat → Int32)  : Met l yX7_forget (wW yX7_forget cX7_forget 1 (none : Option FieldType)) ({ frames := 0, cells := 0, slots := 0, locals := 0 } : Room) (va_Pc [Value.ref xl] (fun U => U.heap.size = sz ∧ va_P (dC, dI) classes [oX7 xl (nI lz) lsg] U.heap ∧ va_K (dC, dI) classes (TY aC) U ∧ va_D (fun _ => True) [oX7 xl (nI lz) lsg] ∧ NX U)) (va_Qv (fun (_ : Unit) => True) (fun (_ : Unit) (t : State) => va_P (dC, dI) classes [oX7 xl 0 lsg] t.heap ∧ va_K (dC, dI) classes (TY aC) t ∧ va_D (va_A [oX7 xl (nI lz) lsg] sz) [oX7 xl 0 lsg]) (va_A [oX7 xl (nI lz) lsg] sz)) 0 0 (va_A [oX7 xl (nI lz) lsg] sz) := by
  refine Met.ofW (cc := cX7_forget) (maxL := 1) (ret := (none : Option FieldType)) (by decide) rfl ?_
  intro p e s m args below meth c s₁ B hml hv
  obtain ⟨rfl, hsz, hP, hK, hD0, hN⟩ := hv
  have hx := B.exec
  have hb := B.bytes
  have hr := B.returns
  have hts0 := atoms_spec (ws := (wW yX7_forget cX7_forget 1 (none : Option FieldType))) B.pre
  have hts : ∀ w9 ∈ lw_G, w9.before ([Value.ref xl] : List Value).toArray s = true := fun w9 h9 => hts0 w9 (List.mem_cons_of_mem _ h9)
  have hown : s.vm.findClass RX7 = some m.cls := findClass_of_methodNamed (x := yX7_forget) B.named
  have hlocks := B.notSynchronized
  subst hsz
  have hD := hD0.self (sz := s.heap.size)
  generalize hAe : va_A [oX7 xl (nI lz) lsg] s.heap.size = A at hD ⊢
  have hA : ∀ q : Nat, s.heap.size ≤ q → A q := fun q h => by rw [← hAe]; exact Or.inr h
  obtain ⟨H, hHe⟩ : ∃ H : Heap, H = s.heap := ⟨_, rfl⟩
  have hS : va_S A s.heap H [] := by rw [hHe]; exact va_S.rf
  have hP : va_P (dC, dI) classes [oX7 xl (nI lz) lsg] H := by rw [hHe]; exact hP
  have hl := lv_entry ([Value.ref xl]) (n := 1) (Nat.le_of_ble_eq_true rfl)
  rw [lg_entry_eq]
  generalize (lg_sl ([Value.ref xl]) ++ List.replicate (1 - (lg_sl ([Value.ref xl])).length) Slot.unset).toArray = ls at hl ⊢
  have hl : lv_has ls 1 [(0, Value.ref xl)] := hl
  rw [← hHe]
  refine lv_aload_n hx hb dX7_forget_0 rfl (lv_at hl 0 rfl) ?_
  refine lv_iconst (v := 0) hx hb dX7_forget_1 (by decide) ?_
  refine va_put (D := (dC, dI)) (ci := 7) (v := Value.int 0) (ty := .int) (C := RX7) (T := TX7) (N := 2) hx hb hts inX7 tyX7 tyX7_ok nmX7 hown hK hP hD hS 0 rfl rfl 0 (by decide) (hts _ (gw kw_80 rfl)) (fun _ h9 => h9) rfl (by decide +kernel) rfl rfl (Nat.le_of_ble_eq_true rfl) dX7_forget_2 (fun H locs hP hD hS => ?_)
  have hpd9 : PDx (dC, dI) classes A H [oX7 xl 0 lsg] := ⟨hP, hD⟩
  have hP := hpd9.1
  have hD := hpd9.2
  clear hpd9
  have hpd9 := pd_N (cx := [oX7 xl 0 lsg]) hP hD [0] (by decide) rfl
  have hP9 := hpd9.1
  have hD9 := hpd9.2
  refine W.widen (k := 0) (n := 0) (by omega) (by omega) ?_
  exact W.vret hx hb hr (fun t ht hW => ⟨⟨(), rfl, trivial, by rw [ht]; exact hP9, va_K.moved hW.alike hK, hD9⟩, hS.F ht⟩) hS.2.2 dX7_forget_5

set_option maxHeartbeats 1000000 in
set_option maxRecDepth 100000 in
/-- X7_digitsOf -/
theorem c_X7_digitsOf (l : Launch) (dC : Nat → ClassId) (dI : Nat → Nat → Nat) (aC : Nat → ClassId) (sz : Nat) (x : Int32)  : Met l yX7_digitsOf (wW yX7_digitsOf cX7_digitsOf 1 (some .int)) ({ frames := 0, cells := 0, slots := 0, locals := 0 } : Room) (va_Pc [Value.int x] (fun U => U.heap.size = sz ∧ va_P (dC, dI) classes [] U.heap ∧ va_K (dC, dI) classes (TY aC) U ∧ va_D (fun _ => True) [] ∧ NX U)) (va_Qi (fun (r : Int32) (_ : Unit) => r = if x = 109 ∨ x = 108 then 3 else if x = 99 then 1 else 0) (fun (_ : Unit) (t : State) => va_P (dC, dI) classes [] t.heap ∧ va_K (dC, dI) classes (TY aC) t ∧ va_D (va_A [] sz) []) (va_A [] sz)) 0 0 (va_A [] sz) := by
  refine Met.ofW (cc := cX7_digitsOf) (maxL := 1) (ret := (some .int)) (by decide) rfl ?_
  intro p e s m args below meth c s₁ B hml hv
  obtain ⟨rfl, hsz, hP, hK, hD0, hN⟩ := hv
  have hx := B.exec
  have hb := B.bytes
  have hr := B.returns
  have hts0 := atoms_spec (ws := (wW yX7_digitsOf cX7_digitsOf 1 (some .int))) B.pre
  have hts : ∀ w9 ∈ lw_G, w9.before ([Value.int x] : List Value).toArray s = true := fun w9 h9 => hts0 w9 (List.mem_cons_of_mem _ h9)
  have hown : s.vm.findClass RX7 = some m.cls := findClass_of_methodNamed (x := yX7_digitsOf) B.named
  have hlocks := B.notSynchronized
  subst hsz
  have hD := hD0.self (sz := s.heap.size)
  generalize hAe : va_A [] s.heap.size = A at hD ⊢
  have hA : ∀ q : Nat, s.heap.size ≤ q → A q := fun q h => by rw [← hAe]; exact Or.inr h
  obtain ⟨H, hHe⟩ : ∃ H : Heap, H = s.heap := ⟨_, rfl⟩
  have hS : va_S A s.heap H [] := by rw [hHe]; exact va_S.rf
  have hP : va_P (dC, dI) classes [] H := by rw [hHe]; exact hP
  have hl := lv_entry ([Value.int x]) (n := 1) (Nat.le_of_ble_eq_true rfl)
  rw [lg_entry_eq]
  generalize (lg_sl ([Value.int x]) ++ List.replicate (1 - (lg_sl ([Value.int x])).length) Slot.unset).toArray = ls at hl ⊢
  have hl : lv_has ls 1 [(0, Value.int x)] := hl
  rw [← hHe]
  refine lv_iload_n hx hb dX7_digitsOf_0 rfl (lv_at hl 0 rfl) ?_
  refine lv_bipush (v := 109) hx hb dX7_digitsOf_1 (by decide) ?_
  refine lv_icmp_eq (tgt := 12) hx hb dX7_digitsOf_3 (by decide) (fun c_1 => ?_) (fun c_1 => ?_)
  · refine lv_iconst (v := 3) hx hb dX7_digitsOf_12 (by decide) ?_
    have hpd9 := pd_N (cx := []) hP hD [] (by decide) rfl
    have hP9 := hpd9.1
    have hD9 := hpd9.2
    refine W.widen (k := 0) (n := 0) (by omega) (by omega) ?_
    exact W.iret (v := 3) hx hb hr (fun t ht hW => ⟨⟨3, (), rfl, by rw [if_pos (Or.inl c_1)], by rw [ht]; exact hP9, va_K.moved hW.alike hK, hD9⟩, hS.F ht⟩) hS.2.2 dX7_digitsOf_13
  · refine lv_iload_n hx hb dX7_digitsOf_6 rfl (lv_at hl 0 rfl) ?_
    refine lv_bipush (v := 108) hx hb dX7_digitsOf_7 (by decide) ?_
    refine lv_icmp_ne (tgt := 14) hx hb dX7_digitsOf_9 (by decide) (fun c_2 => ?_) (fun c_2 => ?_)
    · refine lv_iload_n hx hb dX7_digitsOf_14 rfl (lv_at hl 0 rfl) ?_
      refine lv_bipush (v := 99) hx hb dX7_digitsOf_15 (by decide) ?_
      refine lv_icmp_ne (tgt := 24) hx hb dX7_digitsOf_17 (by decide) (fun c_3 => ?_) (fun c_3 => ?_)
      · refine lv_iconst (v := 0) hx hb dX7_digitsOf_24 (by decide) ?_
        have hpd9 := pd_N (cx := []) hP hD [] (by decide) rfl
        have hP9 := hpd9.1
        have hD9 := hpd9.2
        refine W.widen (k := 0) (n := 0) (by omega) (by omega) ?_
        exact W.iret (v := 0) hx hb hr (fun t ht hW => ⟨⟨0, (), rfl, by rw [if_neg (fun q => q.elim c_1 c_2), if_neg c_3], by rw [ht]; exact hP9, va_K.moved hW.alike hK, hD9⟩, hS.F ht⟩) hS.2.2 dX7_digitsOf_25
      · refine lv_iconst (v := 1) hx hb dX7_digitsOf_20 (by decide) ?_
        refine lv_goto (tgt := 25) hx hb dX7_digitsOf_21 (by decide) ?_
        have hpd9 := pd_N (cx := []) hP hD [] (by decide) rfl
        have hP9 := hpd9.1
        have hD9 := hpd9.2
        refine W.widen (k := 0) (n := 0) (by omega) (by omega) ?_
        exact W.iret (v := 1) hx hb hr (fun t ht hW => ⟨⟨1, (), rfl, by rw [if_neg (fun q => q.elim c_1 c_2), if_pos c_3], by rw [ht]; exact hP9, va_K.moved hW.alike hK, hD9⟩, hS.F ht⟩) hS.2.2 dX7_digitsOf_25
    · refine lv_iconst (v := 3) hx hb dX7_digitsOf_12 (by decide) ?_
      have hpd9 := pd_N (cx := []) hP hD [] (by decide) rfl
      have hP9 := hpd9.1
      have hD9 := hpd9.2
      refine W.widen (k := 0) (n := 0) (by omega) (by omega) ?_
      exact W.iret (v := 3) hx hb hr (fun t ht hW => ⟨⟨3, (), rfl, by rw [if_pos (Or.inr c_2)], by rw [ht]; exact hP9, va_K.moved hW.alike hK, hD9⟩, hS.F ht⟩) hS.2.2 dX7_digitsOf_13

set_option maxHeartbeats 1000000 in
set_option maxRecDepth 100000 in
/-- X7_isDigit -/
theorem c_X7_isDigit (l : Launch) (dC : Nat → ClassId) (dI : Nat → Nat → Nat) (aC : Nat → ClassId) (sz : Nat) (x : Int32)  : Met l yX7_isDigit (wW yX7_isDigit cX7_isDigit 1 (some .boolean)) ({ frames := 0, cells := 0, slots := 0, locals := 0 } : Room) (va_Pc [Value.int x] (fun U => U.heap.size = sz ∧ va_P (dC, dI) classes [] U.heap ∧ va_K (dC, dI) classes (TY aC) U ∧ va_D (fun _ => True) [] ∧ NX U)) (va_Qi (fun (r : Int32) (_ : Unit) => r = if x < 48 then 0 else if 57 < x then 0 else 1) (fun (_ : Unit) (t : State) => va_P (dC, dI) classes [] t.heap ∧ va_K (dC, dI) classes (TY aC) t ∧ va_D (va_A [] sz) []) (va_A [] sz)) 0 0 (va_A [] sz) := by
  refine Met.ofW (cc := cX7_isDigit) (maxL := 1) (ret := (some .boolean)) (by decide) rfl ?_
  intro p e s m args below meth c s₁ B hml hv
  obtain ⟨rfl, hsz, hP, hK, hD0, hN⟩ := hv
  have hx := B.exec
  have hb := B.bytes
  have hr := B.returns
  have hts0 := atoms_spec (ws := (wW yX7_isDigit cX7_isDigit 1 (some .boolean))) B.pre
  have hts : ∀ w9 ∈ lw_G, w9.before ([Value.int x] : List Value).toArray s = true := fun w9 h9 => hts0 w9 (List.mem_cons_of_mem _ h9)
  have hown : s.vm.findClass RX7 = some m.cls := findClass_of_methodNamed (x := yX7_isDigit) B.named
  have hlocks := B.notSynchronized
  subst hsz
  have hD := hD0.self (sz := s.heap.size)
  generalize hAe : va_A [] s.heap.size = A at hD ⊢
  have hA : ∀ q : Nat, s.heap.size ≤ q → A q := fun q h => by rw [← hAe]; exact Or.inr h
  obtain ⟨H, hHe⟩ : ∃ H : Heap, H = s.heap := ⟨_, rfl⟩
  have hS : va_S A s.heap H [] := by rw [hHe]; exact va_S.rf
  have hP : va_P (dC, dI) classes [] H := by rw [hHe]; exact hP
  have hl := lv_entry ([Value.int x]) (n := 1) (Nat.le_of_ble_eq_true rfl)
  rw [lg_entry_eq]
  generalize (lg_sl ([Value.int x]) ++ List.replicate (1 - (lg_sl ([Value.int x])).length) Slot.unset).toArray = ls at hl ⊢
  have hl : lv_has ls 1 [(0, Value.int x)] := hl
  rw [← hHe]
  refine lv_iload_n hx hb dX7_isDigit_0 rfl (lv_at hl 0 rfl) ?_
  refine lv_bipush (v := 48) hx hb dX7_isDigit_1 (by decide) ?_
  refine lv_icmp_lt (tgt := 16) hx hb dX7_isDigit_3 (by decide) (fun c_1 => ?_) (fun c_1 => ?_)
  · refine lv_iconst (v := 0) hx hb dX7_isDigit_16 (by decide) ?_
    have hpd9 := pd_N (cx := []) hP hD [] (by decide) rfl
    have hP9 := hpd9.1
    have hD9 := hpd9.2
    refine W.widen (k := 0) (n := 0) (by omega) (by omega) ?_
    exact W.zret (v := 0) hx hb hr rfl (fun t ht hW => ⟨⟨0, (), rfl, by rw [if_pos c_1], by rw [ht]; exact hP9, va_K.moved hW.alike hK, hD9⟩, hS.F ht⟩) hS.2.2 dX7_isDigit_17
  · refine lv_iload_n hx hb dX7_isDigit_6 rfl (lv_at hl 0 rfl) ?_
    refine lv_bipush (v := 57) hx hb dX7_isDigit_7 (by decide) ?_
    refine lv_icmp_gt (tgt := 16) hx hb dX7_isDigit_9 (by decide) (fun c_2 => ?_) (fun c_2 => ?_)
    · refine lv_iconst (v := 0) hx hb dX7_isDigit_16 (by decide) ?_
      have hpd9 := pd_N (cx := []) hP hD [] (by decide) rfl
      have hP9 := hpd9.1
      have hD9 := hpd9.2
      refine W.widen (k := 0) (n := 0) (by omega) (by omega) ?_
      exact W.zret (v := 0) hx hb hr rfl (fun t ht hW => ⟨⟨0, (), rfl, by rw [if_neg c_1, if_pos c_2], by rw [ht]; exact hP9, va_K.moved hW.alike hK, hD9⟩, hS.F ht⟩) hS.2.2 dX7_isDigit_17
    · refine lv_iconst (v := 1) hx hb dX7_isDigit_12 (by decide) ?_
      refine lv_goto (tgt := 17) hx hb dX7_isDigit_13 (by decide) ?_
      have hpd9 := pd_N (cx := []) hP hD [] (by decide) rfl
      have hP9 := hpd9.1
      have hD9 := hpd9.2
      refine W.widen (k := 0) (n := 0) (by omega) (by omega) ?_
      exact W.zret (v := 1) hx hb hr rfl (fun t ht hW => ⟨⟨1, (), rfl, by rw [if_neg c_1, if_neg c_2], by rw [ht]; exact hP9, va_K.moved hW.alike hK, hD9⟩, hS.F ht⟩) hS.2.2 dX7_isDigit_17

set_option maxHeartbeats 1000000 in
set_option maxRecDepth 100000 in
/-- X7_digit -/
theorem c_X7_digit (l : Launch) (dC : Nat → ClassId) (dI : Nat → Nat → Nat) (aC : Nat → ClassId) (sz : Nat) (xl : Nat) (lsg : Nat) (lz : Nat) (Lt : Nat → Nat) (sg : Nat → Int32) (q : Nat) (hlt0 : LTR lz Lt sg) (hq : q ≤ 200) : Met l yX7_digit (wW yX7_digit cX7_digit 2 (some .int)) ({ frames := 0, cells := 0, slots := 0, locals := 0 } : Room) (va_Pc [Value.ref xl, Value.int (nI q)] (fun U => U.heap.size = sz ∧ va_P (dC, dI) classes [oX7 xl (nI lz) lsg, cC aC lsg 64 sg] U.heap ∧ va_K (dC, dI) classes (TY aC) U ∧ va_D (fun _ => True) [oX7 xl (nI lz) lsg, cC aC lsg 64 sg] ∧ NX U)) (va_Qi (fun (r : Int32) (_ : Unit) => r = if q < lz then nI (Lt q) - 48 else 0) (fun (_ : Unit) (t : State) => va_P (dC, dI) classes [oX7 xl (nI lz) lsg, cC aC lsg 64 sg] t.heap ∧ va_K (dC, dI) classes (TY aC) t ∧ va_D (va_A [oX7 xl (nI lz) lsg, cC aC lsg 64 sg] sz) [oX7 xl (nI lz) lsg, cC aC lsg 64 sg]) (va_A [oX7 xl (nI lz) lsg, cC aC lsg 64 sg] sz)) 0 0 (va_A [oX7 xl (nI lz) lsg, cC aC lsg 64 sg] sz) := by
  refine Met.ofW (cc := cX7_digit) (maxL := 2) (ret := (some .int)) (by decide) rfl ?_
  intro p e s m args below meth c s₁ B hml hv
  obtain ⟨rfl, hsz, hP, hK, hD0, hN⟩ := hv
  have hx := B.exec
  have hb := B.bytes
  have hr := B.returns
  have hts0 := atoms_spec (ws := (wW yX7_digit cX7_digit 2 (some .int))) B.pre
  have hts : ∀ w9 ∈ lw_G, w9.before ([Value.ref xl, Value.int (nI q)] : List Value).toArray s = true := fun w9 h9 => hts0 w9 (List.mem_cons_of_mem _ h9)
  have hown : s.vm.findClass RX7 = some m.cls := findClass_of_methodNamed (x := yX7_digit) B.named
  have hlocks := B.notSynchronized
  subst hsz
  have hD := hD0.self (sz := s.heap.size)
  generalize hAe : va_A [oX7 xl (nI lz) lsg, cC aC lsg 64 sg] s.heap.size = A at hD ⊢
  have hA : ∀ q : Nat, s.heap.size ≤ q → A q := fun q h => by rw [← hAe]; exact Or.inr h
  obtain ⟨H, hHe⟩ : ∃ H : Heap, H = s.heap := ⟨_, rfl⟩
  have hS : va_S A s.heap H [] := by rw [hHe]; exact va_S.rf
  have hP : va_P (dC, dI) classes [oX7 xl (nI lz) lsg, cC aC lsg 64 sg] H := by rw [hHe]; exact hP
  have hl := lv_entry ([Value.ref xl, Value.int (nI q)]) (n := 2) (Nat.le_of_ble_eq_true rfl)
  rw [lg_entry_eq]
  generalize (lg_sl ([Value.ref xl, Value.int (nI q)]) ++ List.replicate (2 - (lg_sl ([Value.ref xl, Value.int (nI q)])).length) Slot.unset).toArray = ls at hl ⊢
  have hl : lv_has ls 2 [(0, Value.ref xl), (1, Value.int (nI q))] := hl
  rw [← hHe]
  have hz6 := hlt0.1
  have hL := hlt0.2
  refine lv_iload_n hx hb dX7_digit_0 rfl (lv_at hl 1 rfl) ?_
  refine lv_if_lt (tgt := 24) hx hb dX7_digit_1 (by decide) (fun c_1 => ?_) (fun c_1 => ?_)
  · exact absurd c_1 (nI_pos (by omega))
  · refine lv_iload_n hx hb dX7_digit_4 rfl (lv_at hl 1 rfl) ?_
    refine lv_aload_n hx hb dX7_digit_5 rfl (lv_at hl 0 rfl) ?_
    refine va_get (D := (dC, dI)) (ci := 7) (v := Value.int (nI lz)) (C := RX7) (T := TX7) (N := 2) hx hb hts inX7 hown hK hP 0 rfl rfl 0 (by decide) (hts _ (gw kw_80 rfl)) (fun _ h9 => h9) rfl dX7_digit_6 ?_
    refine lv_icmp_ge (tgt := 24) hx hb dX7_digit_9 (by decide) (fun c_2 => ?_) (fun c_2 => ?_)
    · refine lv_iconst (v := 0) hx hb dX7_digit_24 (by decide) ?_
      have hpd9 := pd_N (cx := [oX7 xl (nI lz) lsg, cC aC lsg 64 sg]) hP hD [0, 1] (by decide) rfl
      have hP9 := hpd9.1
      have hD9 := hpd9.2
      refine W.widen (k := 0) (n := 0) (by omega) (by omega) ?_
      exact W.iret (v := 0) hx hb hr (fun t ht hW => ⟨⟨0, (), rfl, by rw [if_neg (fun z => absurd c_2 (nI_ge z (by omega)))], by rw [ht]; exact hP9, va_K.moved hW.alike hK, hD9⟩, hS.F ht⟩) hS.2.2 dX7_digit_25
    · have hlt : q < lz := by
        rcases Nat.lt_or_ge q lz with q | q
        · exact q
        · exact absurd (nI_le q (by omega)) c_2
      refine lv_aload_n hx hb dX7_digit_12 rfl (lv_at hl 0 rfl) ?_
      refine va_get (D := (dC, dI)) (ci := 7) (v := Value.ref lsg) (C := RX7) (T := TX7) (N := 2) hx hb hts inX7 hown hK hP 0 rfl rfl 1 (by decide) (hts _ (gw kw_82 rfl)) (fun _ h9 => h9) rfl dX7_digit_13 ?_
      refine lv_iload_n hx hb dX7_digit_16 rfl (lv_at hl 1 rfl) ?_
      have h_3 : vp_in (nI q) 64 := vp_in_nI (by omega) (by omega)
      refine va_cald hx hb hK hP 1 1 rfl rfl h_3 dX7_digit_17 ?_
      refine lv_topi (fun x_4 e_4 => ?_)
      refine lv_bipush (v := 48) hx hb dX7_digit_18 (by decide) ?_
      refine lv_isub hx hb dX7_digit_20 ?_
      refine lv_topi (fun x_5 e_5 => ?_)
      refine lv_goto (tgt := 25) hx hb dX7_digit_21 (by decide) ?_
      have hpd9 := pd_N (cx := [oX7 xl (nI lz) lsg, cC aC lsg 64 sg]) hP hD [0, 1] (by decide) rfl
      have hP9 := hpd9.1
      have hD9 := hpd9.2
      refine W.widen (k := 0) (n := 0) (by omega) (by omega) ?_
      exact W.iret (v := x_5) hx hb hr (fun t ht hW => ⟨⟨x_5, (), rfl, by rw [e_5, e_4, nI_clamp (by omega), (hL q hlt).1, if_pos hlt], by rw [ht]; exact hP9, va_K.moved hW.alike hK, hD9⟩, hS.F ht⟩) hS.2.2 dX7_digit_25

set_option maxHeartbeats 1000000 in
set_option maxRecDepth 100000 in
/-- X7_brokenAt -/
theorem c_X7_brokenAt (l : Launch) (dC : Nat → ClassId) (dI : Nat → Nat → Nat) (aC : Nat → ClassId) (sz : Nat) (xl : Nat) (lsg : Nat) (lz : Nat) (Lt : Nat → Nat) (sg : Nat → Int32) (hlt0 : LTR lz Lt sg) : Met l yX7_brokenAt (wW yX7_brokenAt cX7_brokenAt 6 (some .int)) ({ frames := 1, cells := 0, slots := 0, locals := 20 } : Room) (va_Pc [Value.ref xl] (fun U => U.heap.size = sz ∧ va_P (dC, dI) classes [oX7 xl (nI lz) lsg, cC aC lsg 64 sg] U.heap ∧ va_K (dC, dI) classes (TY aC) U ∧ va_D (fun _ => True) [oX7 xl (nI lz) lsg, cC aC lsg 64 sg] ∧ NX U)) (va_Qi (fun (r : Int32) (_ : Unit) => r = brR Lt lz) (fun (_ : Unit) (t : State) => va_P (dC, dI) classes [oX7 xl (nI lz) lsg, cC aC lsg 64 sg] t.heap ∧ va_K (dC, dI) classes (TY aC) t ∧ va_D (va_A [oX7 xl (nI lz) lsg, cC aC lsg 64 sg] sz) [oX7 xl (nI lz) lsg, cC aC lsg 64 sg]) (va_A [oX7 xl (nI lz) lsg, cC aC lsg 64 sg] sz)) 0 0 (va_A [oX7 xl (nI lz) lsg, cC aC lsg 64 sg] sz) := by
  refine Met.ofW (cc := cX7_brokenAt) (maxL := 6) (ret := (some .int)) (by decide) rfl ?_
  intro p e s m args below meth c s₁ B hml hv
  obtain ⟨rfl, hsz, hP, hK, hD0, hN⟩ := hv
  have hx := B.exec
  have hb := B.bytes
  have hr := B.returns
  have hts0 := atoms_spec (ws := (wW yX7_brokenAt cX7_brokenAt 6 (some .int))) B.pre
  have hts : ∀ w9 ∈ lw_G, w9.before ([Value.ref xl] : List Value).toArray s = true := fun w9 h9 => hts0 w9 (List.mem_cons_of_mem _ h9)
  have hown : s.vm.findClass RX7 = some m.cls := findClass_of_methodNamed (x := yX7_brokenAt) B.named
  have hlocks := B.notSynchronized
  subst hsz
  have hD := hD0.self (sz := s.heap.size)
  generalize hAe : va_A [oX7 xl (nI lz) lsg, cC aC lsg 64 sg] s.heap.size = A at hD ⊢
  have hA : ∀ q : Nat, s.heap.size ≤ q → A q := fun q h => by rw [← hAe]; exact Or.inr h
  obtain ⟨H, hHe⟩ : ∃ H : Heap, H = s.heap := ⟨_, rfl⟩
  have hS : va_S A s.heap H [] := by rw [hHe]; exact va_S.rf
  have hP : va_P (dC, dI) classes [oX7 xl (nI lz) lsg, cC aC lsg 64 sg] H := by rw [hHe]; exact hP
  have hl := lv_entry ([Value.ref xl]) (n := 6) (Nat.le_of_ble_eq_true rfl)
  rw [lg_entry_eq]
  generalize (lg_sl ([Value.ref xl]) ++ List.replicate (6 - (lg_sl ([Value.ref xl])).length) Slot.unset).toArray = ls at hl ⊢
  have hl : lv_has ls 6 [(0, Value.ref xl)] := hl
  rw [← hHe]
  have hz6 := hlt0.1
  have hL := hlt0.2
  refine lv_iconst (v := 1) hx hb dX7_brokenAt_0 (by decide) ?_
  refine lv_istore_n (lv' := [(1, Value.int 1), (0, Value.ref xl)]) hx hb dX7_brokenAt_1 rfl hl (by decide) rfl (fun ls hl => ?_)
  refine lv_iconst (v := 0) hx hb dX7_brokenAt_2 (by decide) ?_
  refine lv_istore_n (lv' := [(2, Value.int 0), (1, Value.int 1), (0, Value.ref xl)]) hx hb dX7_brokenAt_3 rfl hl (by decide) rfl (fun ls hl => ?_)
  refine lv_iconst (v := 0) hx hb dX7_brokenAt_4 (by decide) ?_
  refine lv_istore_n (lv' := [(3, Value.int 0), (2, Value.int 0), (1, Value.int 1), (0, Value.ref xl)]) hx hb dX7_brokenAt_5 rfl hl (by decide) rfl (fun ls hl => ?_)
  refine lv_iconst (v := 0) hx hb dX7_brokenAt_6 (by decide) ?_
  refine lv_istore (lv' := [(4, Value.int 0), (3, Value.int 0), (2, Value.int 0), (1, Value.int 1), (0, Value.ref xl)]) hx hb dX7_brokenAt_7 hl (by decide) rfl (fun ls hl => ?_)
  have lp_9 : ∀ (fu : Nat) (pp : Nat) (is : Int32) (mu : Int32) (ma : Int32) (hfu : lz - pp < fu) (hp : pp ≤ lz) (hcs : CST (lrn Lt pp) is mu ma) (hf : fps Lt 0 lz = fps Lt pp (lz - pp)) (H : Heap) (locs : List Loc) (ls : Array Slot), va_P (dC, dI) classes [oX7 xl (nI lz) lsg, cC aC lsg 64 sg] H → va_D A [oX7 xl (nI lz) lsg, cC aC lsg 64 sg] → va_S A s.heap H locs → lv_has ls 6 [(0, Value.ref xl), (1, Value.int is), (2, Value.int mu), (3, Value.int ma), (4, Value.int (nI pp))] → W p l e (headSpec (wW yX7_brokenAt cX7_brokenAt 6 (some .int)) ({ frames := 1, cells := 0, slots := 0, locals := 20 } : Room)).room s m ([Value.ref xl] : List Value).toArray below meth c H locs 0 0 (MQ below (va_Qi (fun (r : Int32) (_ : Unit) => r = brR Lt lz) (fun (_ : Unit) (t : State) => va_P (dC, dI) classes [oX7 xl (nI lz) lsg, cC aC lsg 64 sg] t.heap ∧ va_K (dC, dI) classes (TY aC) t ∧ va_D A [oX7 xl (nI lz) lsg, cC aC lsg 64 sg]) A) ([Value.ref xl] : List Value).toArray s 0 0 A) (F0 m 9 ls []) := by
    intro fu
    induction fu with
    | zero => intro pp is mu ma hfu; exact absurd hfu (Nat.not_lt_zero _)
    | succ fu ih_9 =>
      intro pp is mu ma hfu hp hcs hf H locs ls hP hD hS hl
      refine lv_iload hx hb dX7_brokenAt_9 (lv_at hl 4 rfl) ?_
      refine lv_aload_n hx hb dX7_brokenAt_11 rfl (lv_at hl 0 rfl) ?_
      refine va_get (D := (dC, dI)) (ci := 7) (v := Value.int (nI lz)) (C := RX7) (T := TX7) (N := 2) hx hb hts inX7 hown hK hP 0 rfl rfl 0 (by decide) (hts _ (gw kw_80 rfl)) (fun _ h9 => h9) rfl dX7_brokenAt_12 ?_
      refine lv_icmp_ge (tgt := 120) hx hb dX7_brokenAt_15 (by decide) (fun c_1 => ?_) (fun c_1 => ?_)
      · have hpz : pp = lz := by
          rcases Nat.lt_or_ge pp lz with q | q
          · exact absurd c_1 (nI_ge q (by omega))
          · omega
        refine lv_aload_n hx hb dX7_brokenAt_120 rfl (lv_at hl 0 rfl) ?_
        refine va_get (D := (dC, dI)) (ci := 7) (v := Value.int (nI lz)) (C := RX7) (T := TX7) (N := 2) hx hb hts inX7 hown hK hP 0 rfl rfl 0 (by decide) (hts _ (gw kw_80 rfl)) (fun _ h9 => h9) rfl dX7_brokenAt_121 ?_
        refine lv_if_le (tgt := 136) hx hb dX7_brokenAt_124 (by decide) (fun c_2 => ?_) (fun c_2 => ?_)
        · refine lv_aload_n hx hb dX7_brokenAt_136 rfl (lv_at hl 0 rfl) ?_
          refine va_get (D := (dC, dI)) (ci := 7) (v := Value.int (nI lz)) (C := RX7) (T := TX7) (N := 2) hx hb hts inX7 hown hK hP 0 rfl rfl 0 (by decide) (hts _ (gw kw_80 rfl)) (fun _ h9 => h9) rfl dX7_brokenAt_137 ?_
          have hpd9 := pd_N (cx := [oX7 xl (nI lz) lsg, cC aC lsg 64 sg]) hP hD [0, 1] (by decide) rfl
          have hP9 := hpd9.1
          have hD9 := hpd9.2
          refine W.widen (k := 0) (n := 0) (by omega) (by omega) ?_
          exact W.iret (v := nI lz) hx hb hr (fun t ht hW => ⟨⟨(nI lz), (), rfl, by unfold brR; rw [if_neg (fun z => absurd (Int32.lt_of_lt_of_le (nI_lt (a := 0) z.2 (by omega)) c_2) (by decide)), hf]; subst hpz; rw [Nat.sub_self]; rfl, by rw [ht]; exact hP9, va_K.moved hW.alike hK, hD9⟩, hS.F ht⟩) hS.2.2 dX7_brokenAt_140
        · refine lv_iload_n hx hb dX7_brokenAt_127 rfl (lv_at hl 1 rfl) ?_
          refine lv_if_eq (tgt := 136) hx hb dX7_brokenAt_128 (by decide) (fun c_3 => ?_) (fun c_3 => ?_)
          · refine lv_aload_n hx hb dX7_brokenAt_136 rfl (lv_at hl 0 rfl) ?_
            refine va_get (D := (dC, dI)) (ci := 7) (v := Value.int (nI lz)) (C := RX7) (T := TX7) (N := 2) hx hb hts inX7 hown hK hP 0 rfl rfl 0 (by decide) (hts _ (gw kw_80 rfl)) (fun _ h9 => h9) rfl dX7_brokenAt_137 ?_
            have hpd9 := pd_N (cx := [oX7 xl (nI lz) lsg, cC aC lsg 64 sg]) hP hD [0, 1] (by decide) rfl
            have hP9 := hpd9.1
            have hD9 := hpd9.2
            refine W.widen (k := 0) (n := 0) (by omega) (by omega) ?_
            exact W.iret (v := nI lz) hx hb hr (fun t ht hW => ⟨⟨(nI lz), (), rfl, by unfold brR; subst hpz; rw [if_neg (fun z => cst_n (by rw [← c_3]; exact hcs) z.1), hf, Nat.sub_self]; rfl, by rw [ht]; exact hP9, va_K.moved hW.alike hK, hD9⟩, hS.F ht⟩) hS.2.2 dX7_brokenAt_140
          · refine lv_bipush (v := -9) hx hb dX7_brokenAt_131 (by decide) ?_
            refine lv_goto (tgt := 140) hx hb dX7_brokenAt_133 (by decide) ?_
            have hpd9 := pd_N (cx := [oX7 xl (nI lz) lsg, cC aC lsg 64 sg]) hP hD [0, 1] (by decide) rfl
            have hP9 := hpd9.1
            have hD9 := hpd9.2
            refine W.widen (k := 0) (n := 0) (by omega) (by omega) ?_
            exact W.iret (v := -9) hx hb hr (fun t ht hW => ⟨⟨(-9), (), rfl, by unfold brR; subst hpz; rw [if_pos ⟨CST_0 hcs c_3, Nat.pos_of_ne_zero fun z => c_2 (by rw [z]; decide)⟩], by rw [ht]; exact hP9, va_K.moved hW.alike hK, hD9⟩, hS.F ht⟩) hS.2.2 dX7_brokenAt_140
      · have hlt : pp < lz := by
          rcases Nat.lt_or_ge pp lz with q | q
          · exact q
          · exact absurd (nI_le q (by omega)) c_1
        refine lv_aload_n hx hb dX7_brokenAt_18 rfl (lv_at hl 0 rfl) ?_
        refine va_get (D := (dC, dI)) (ci := 7) (v := Value.ref lsg) (C := RX7) (T := TX7) (N := 2) hx hb hts inX7 hown hK hP 0 rfl rfl 1 (by decide) (hts _ (gw kw_82 rfl)) (fun _ h9 => h9) rfl dX7_brokenAt_19 ?_
        refine lv_iload hx hb dX7_brokenAt_22 (lv_at hl 4 rfl) ?_
        have h_4 : vp_in (nI pp) 64 := vp_in_nI (by omega) (by omega)
        refine va_cald hx hb hK hP 1 1 rfl rfl h_4 dX7_brokenAt_24 ?_
        refine lv_topi (fun x_5 e_5 => ?_)
        refine lv_istore (lv' := [(5, Value.int x_5), (0, Value.ref xl), (1, Value.int is), (2, Value.int mu), (3, Value.int ma), (4, Value.int (nI pp))]) hx hb dX7_brokenAt_25 hl (by decide) rfl (fun ls hl => ?_)
        have h9 : x_5 = nI (Lt pp) := by rw [e_5, nI_clamp (by omega)]; exact (hL pp hlt).1
        subst h9
        refine lv_iload_n hx hb dX7_brokenAt_27 rfl (lv_at hl 2 rfl) ?_
        refine lv_if_eq (tgt := 59) hx hb dX7_brokenAt_28 (by decide) (fun c_6 => ?_) (fun c_6 => ?_)
        · have h9 : is = 0 := c_6
          subst h9
          refine lv_iload hx hb dX7_brokenAt_59 (lv_at hl 0 rfl) ?_
          have hpd9 := pdf_N (cx := []) hP hD hS hA [] (by decide) rfl
          have hPc := hpd9.1
          have hDc := hpd9.2.1
          have hFc := hpd9.2.2
          clear hpd9
          refine va_calli (va_runS (As := [Value.int (nI (Lt pp))]) (rest := []) ⟨hx, hb, hml, hown, hts⟩ (c_X7_isDigit l dC dI aC H.size (nI (Lt pp)) ) ⟨(callB_of 1 hts (gG kw_302) rfl rfl rfl (hts _ (gw kw_3 rfl)) (hts _ (gw kw_300 rfl)) hd_X7_isDigit ⟨Nat.le_of_ble_eq_true rfl, Nat.le_of_ble_eq_true rfl⟩), (hts _ (gw kw_301 rfl))⟩ ⟨fb_std, pre_std hPc hK hDc hN⟩ rfl rfl hl.1 rfl (lv_room (Nat.le_of_ble_eq_true rfl)) dX7_brokenAt_61 ⟨Nat.le_of_ble_eq_true rfl, Nat.le_of_ble_eq_true rfl⟩) hS (fun q _ h => hFc q h) hFc (fun x_7 u9 t9 H1 locs ht hvm hw_7 hB hz1 hk1 hS => ?_)
          obtain ⟨hP1, hK1, hD1⟩ := hB
          rw [ht] at hP1
          clear hK1
          try dsimp only at hw_7
          have hpd9 : PDx (dC, dI) classes A H1 [oX7 xl (nI lz) lsg, cC aC lsg 64 sg] := jn_N (wr := [oX7 xl (nI lz) lsg, cC aC lsg 64 sg]) hFc hk1 hP1 hD1 hP hD [] [0, 1] rfl rfl (by decide) (by decide)
          have hP := hpd9.1
          have hD := hpd9.2
          clear hpd9
          generalize H1 = H at hP hS ⊢
          clear hPc hDc hFc hz1 hk1 hP1 hD1 ht hvm
          have hz_61 := hw_7
          refine lv_if_eq (tgt := 77) hx hb dX7_brokenAt_64 (by decide) (fun c_8 => ?_) (fun c_8 => ?_)
          · refine lv_iload hx hb dX7_brokenAt_77 (lv_at hl 0 rfl) ?_
            have hpd9 := pdf_N (cx := []) hP hD hS hA [] (by decide) rfl
            have hPc := hpd9.1
            have hDc := hpd9.2.1
            have hFc := hpd9.2.2
            clear hpd9
            refine va_calli (va_runS (As := [Value.int (nI (Lt pp))]) (rest := []) ⟨hx, hb, hml, hown, hts⟩ (c_X7_isDigit l dC dI aC H.size (nI (Lt pp)) ) ⟨(callB_of 1 hts (gG kw_302) rfl rfl rfl (hts _ (gw kw_3 rfl)) (hts _ (gw kw_300 rfl)) hd_X7_isDigit ⟨Nat.le_of_ble_eq_true rfl, Nat.le_of_ble_eq_true rfl⟩), (hts _ (gw kw_301 rfl))⟩ ⟨fb_std, pre_std hPc hK hDc hN⟩ rfl rfl hl.1 rfl (lv_room (Nat.le_of_ble_eq_true rfl)) dX7_brokenAt_79 ⟨Nat.le_of_ble_eq_true rfl, Nat.le_of_ble_eq_true rfl⟩) hS (fun q _ h => hFc q h) hFc (fun x_9 u9 t9 H1 locs ht hvm hw_9 hB hz1 hk1 hS => ?_)
            obtain ⟨hP1, hK1, hD1⟩ := hB
            rw [ht] at hP1
            clear hK1
            try dsimp only at hw_9
            have hpd9 : PDx (dC, dI) classes A H1 [oX7 xl (nI lz) lsg, cC aC lsg 64 sg] := jn_N (wr := [oX7 xl (nI lz) lsg, cC aC lsg 64 sg]) hFc hk1 hP1 hD1 hP hD [] [0, 1] rfl rfl (by decide) (by decide)
            have hP := hpd9.1
            have hD := hpd9.2
            clear hpd9
            generalize H1 = H at hP hS ⊢
            clear hPc hDc hFc hz1 hk1 hP1 hD1 ht hvm
            have hz_79 := hw_9
            refine lv_if_eq (tgt := 95) hx hb dX7_brokenAt_82 (by decide) (fun c_10 => ?_) (fun c_10 => ?_)
            · refine lv_iload hx hb dX7_brokenAt_95 (lv_at hl 0 rfl) ?_
              refine lv_bipush (v := 59) hx hb dX7_brokenAt_97 (by decide) ?_
              refine lv_icmp_ne (tgt := 111) hx hb dX7_brokenAt_99 (by decide) (fun c_11 => ?_) (fun c_11 => ?_)
              · have h9 : lrn Lt (pp + 1) = 9 := (cst_s hcs).2.2.2 (fun z => (dig_b (hL pp hlt).2 hz_61).1 c_8 ⟨z.1, z.2.1⟩) (fun z => c_11 (by rw [z.1]; rfl))
                refine lv_iload hx hb dX7_brokenAt_111 (lv_at hl 5 rfl) ?_
                have hpd9 := pd_N (cx := [oX7 xl (nI lz) lsg, cC aC lsg 64 sg]) hP hD [0, 1] (by decide) rfl
                have hP9 := hpd9.1
                have hD9 := hpd9.2
                refine W.widen (k := 0) (n := 0) (by omega) (by omega) ?_
                exact W.iret (v := nI pp) hx hb hr (fun t ht hW => ⟨⟨(nI pp), (), rfl, cst_r hf hlt h9, by rw [ht]; exact hP9, va_K.moved hW.alike hK, hD9⟩, hS.F ht⟩) hS.2.2 dX7_brokenAt_113
              · refine lv_iload_n hx hb dX7_brokenAt_102 rfl (lv_at hl 3 rfl) ?_
                refine lv_if_ne (tgt := 111) hx hb dX7_brokenAt_103 (by decide) (fun c_12 => ?_) (fun c_12 => ?_)
                · have h9 : lrn Lt (pp + 1) = 9 := (cst_s hcs).2.2.2 (fun z => (dig_b (hL pp hlt).2 hz_61).1 c_8 ⟨z.1, z.2.1⟩) (fun z => c_12 z.2)
                  refine lv_iload hx hb dX7_brokenAt_111 (lv_at hl 5 rfl) ?_
                  have hpd9 := pd_N (cx := [oX7 xl (nI lz) lsg, cC aC lsg 64 sg]) hP hD [0, 1] (by decide) rfl
                  have hP9 := hpd9.1
                  have hD9 := hpd9.2
                  refine W.widen (k := 0) (n := 0) (by omega) (by omega) ?_
                  exact W.iret (v := nI pp) hx hb hr (fun t ht hW => ⟨⟨(nI pp), (), rfl, cst_r hf hlt h9, by rw [ht]; exact hP9, va_K.moved hW.alike hK, hD9⟩, hS.F ht⟩) hS.2.2 dX7_brokenAt_113
                · refine lv_iconst (v := 1) hx hb dX7_brokenAt_106 (by decide) ?_
                  refine lv_istore_n (lv' := [(1, Value.int 1), (5, Value.int (nI (Lt pp))), (0, Value.ref xl), (2, Value.int mu), (3, Value.int ma), (4, Value.int (nI pp))]) hx hb dX7_brokenAt_107 rfl hl (by decide) rfl (fun ls hl => ?_)
                  refine lv_goto (tgt := 114) hx hb dX7_brokenAt_108 (by decide) ?_
                  have hcs2 : CST (lrn Lt (pp + 1)) (1) (mu) (ma) := (cst_s hcs).2.2.1 (fun z => (dig_b (hL pp hlt).2 hz_61).1 c_8 ⟨z.1, z.2.1⟩) ((nI_b0 (k := 59) (hL pp hlt).2 (by omega)).mp c_11) c_12
                  obtain ⟨x_13, e_13⟩ : ∃ y : Int32, y = (nI pp) + 1 := ⟨_, rfl⟩
                  refine lv_iinc (v := x_13) (lv' := [(4, Value.int x_13), (1, Value.int 1), (5, Value.int (nI (Lt pp))), (0, Value.ref xl), (2, Value.int mu), (3, Value.int ma)]) hx hb dX7_brokenAt_114 hl (k := 5) rfl (by rw [e_13]; rfl) (by decide) rfl (fun ls hl => ?_)
                  have h9 : x_13 = nI (pp + 1) := by rw [e_13, nI_1]
                  subst h9
                  refine lv_goto (tgt := 9) hx hb dX7_brokenAt_117 (by decide) ?_
                  exact ih_9 (pp + 1) 1 mu ma (by omega) (by omega) (hcs2) (cst_f hf hlt hcs2) _ _ _ (hP.sub [0, 1] rfl) (hD.sub [0, 1] (by decide) rfl) hS (lv_sub hl [3, 1, 4, 5, 0] rfl)
            · exact absurd ((hz_79.trans hz_61.symm).trans c_8) c_10
          · refine lv_iload_n hx hb dX7_brokenAt_67 rfl (lv_at hl 3 rfl) ?_
            refine lv_if_le (tgt := 77) hx hb dX7_brokenAt_68 (by decide) (fun c_14 => ?_) (fun c_14 => ?_)
            · refine lv_iload hx hb dX7_brokenAt_77 (lv_at hl 0 rfl) ?_
              have hpd9 := pdf_N (cx := []) hP hD hS hA [] (by decide) rfl
              have hPc := hpd9.1
              have hDc := hpd9.2.1
              have hFc := hpd9.2.2
              clear hpd9
              refine va_calli (va_runS (As := [Value.int (nI (Lt pp))]) (rest := []) ⟨hx, hb, hml, hown, hts⟩ (c_X7_isDigit l dC dI aC H.size (nI (Lt pp)) ) ⟨(callB_of 1 hts (gG kw_302) rfl rfl rfl (hts _ (gw kw_3 rfl)) (hts _ (gw kw_300 rfl)) hd_X7_isDigit ⟨Nat.le_of_ble_eq_true rfl, Nat.le_of_ble_eq_true rfl⟩), (hts _ (gw kw_301 rfl))⟩ ⟨fb_std, pre_std hPc hK hDc hN⟩ rfl rfl hl.1 rfl (lv_room (Nat.le_of_ble_eq_true rfl)) dX7_brokenAt_79 ⟨Nat.le_of_ble_eq_true rfl, Nat.le_of_ble_eq_true rfl⟩) hS (fun q _ h => hFc q h) hFc (fun x_15 u9 t9 H1 locs ht hvm hw_15 hB hz1 hk1 hS => ?_)
              obtain ⟨hP1, hK1, hD1⟩ := hB
              rw [ht] at hP1
              clear hK1
              try dsimp only at hw_15
              have hpd9 : PDx (dC, dI) classes A H1 [oX7 xl (nI lz) lsg, cC aC lsg 64 sg] := jn_N (wr := [oX7 xl (nI lz) lsg, cC aC lsg 64 sg]) hFc hk1 hP1 hD1 hP hD [] [0, 1] rfl rfl (by decide) (by decide)
              have hP := hpd9.1
              have hD := hpd9.2
              clear hpd9
              generalize H1 = H at hP hS ⊢
              clear hPc hDc hFc hz1 hk1 hP1 hD1 ht hvm
              have hz_79 := hw_15
              refine lv_if_eq (tgt := 95) hx hb dX7_brokenAt_82 (by decide) (fun c_16 => ?_) (fun c_16 => ?_)
              · exact absurd ((hz_61.trans hz_79.symm).trans c_16) c_8
              · refine lv_iload_n hx hb dX7_brokenAt_85 rfl (lv_at hl 4 rfl) ?_
                refine lv_if_le (tgt := 95) hx hb dX7_brokenAt_86 (by decide) (fun c_17 => ?_) (fun c_17 => ?_)
                · refine lv_iload hx hb dX7_brokenAt_95 (lv_at hl 0 rfl) ?_
                  refine lv_bipush (v := 59) hx hb dX7_brokenAt_97 (by decide) ?_
                  refine lv_icmp_ne (tgt := 111) hx hb dX7_brokenAt_99 (by decide) (fun c_18 => ?_) (fun c_18 => ?_)
                  · have h9 : lrn Lt (pp + 1) = 9 := (cst_s hcs).2.2.2 (fun z => z.2.2.elim (fun w => absurd c_14 (Int32.not_le.mpr w)) (fun w => absurd c_17 (Int32.not_le.mpr w))) (fun z => c_18 (by rw [z.1]; rfl))
                    refine lv_iload hx hb dX7_brokenAt_111 (lv_at hl 5 rfl) ?_
                    have hpd9 := pd_N (cx := [oX7 xl (nI lz) lsg, cC aC lsg 64 sg]) hP hD [0, 1] (by decide) rfl
                    have hP9 := hpd9.1
                    have hD9 := hpd9.2
                    refine W.widen (k := 0) (n := 0) (by omega) (by omega) ?_
                    exact W.iret (v := nI pp) hx hb hr (fun t ht hW => ⟨⟨(nI pp), (), rfl, cst_r hf hlt h9, by rw [ht]; exact hP9, va_K.moved hW.alike hK, hD9⟩, hS.F ht⟩) hS.2.2 dX7_brokenAt_113
                  · refine lv_iload_n hx hb dX7_brokenAt_102 rfl (lv_at hl 3 rfl) ?_
                    refine lv_if_ne (tgt := 111) hx hb dX7_brokenAt_103 (by decide) (fun c_19 => ?_) (fun c_19 => ?_)
                    · have h9 : lrn Lt (pp + 1) = 9 := (cst_s hcs).2.2.2 (fun z => z.2.2.elim (fun w => absurd c_14 (Int32.not_le.mpr w)) (fun w => absurd c_17 (Int32.not_le.mpr w))) (fun z => c_19 z.2)
                      refine lv_iload hx hb dX7_brokenAt_111 (lv_at hl 5 rfl) ?_
                      have hpd9 := pd_N (cx := [oX7 xl (nI lz) lsg, cC aC lsg 64 sg]) hP hD [0, 1] (by decide) rfl
                      have hP9 := hpd9.1
                      have hD9 := hpd9.2
                      refine W.widen (k := 0) (n := 0) (by omega) (by omega) ?_
                      exact W.iret (v := nI pp) hx hb hr (fun t ht hW => ⟨⟨(nI pp), (), rfl, cst_r hf hlt h9, by rw [ht]; exact hP9, va_K.moved hW.alike hK, hD9⟩, hS.F ht⟩) hS.2.2 dX7_brokenAt_113
                    · refine lv_iconst (v := 1) hx hb dX7_brokenAt_106 (by decide) ?_
                      refine lv_istore_n (lv' := [(1, Value.int 1), (5, Value.int (nI (Lt pp))), (0, Value.ref xl), (2, Value.int mu), (3, Value.int ma), (4, Value.int (nI pp))]) hx hb dX7_brokenAt_107 rfl hl (by decide) rfl (fun ls hl => ?_)
                      refine lv_goto (tgt := 114) hx hb dX7_brokenAt_108 (by decide) ?_
                      have hcs2 : CST (lrn Lt (pp + 1)) (1) (mu) (ma) := (cst_s hcs).2.2.1 (fun z => z.2.2.elim (fun w => absurd c_14 (Int32.not_le.mpr w)) (fun w => absurd c_17 (Int32.not_le.mpr w))) ((nI_b0 (k := 59) (hL pp hlt).2 (by omega)).mp c_18) c_19
                      obtain ⟨x_20, e_20⟩ : ∃ y : Int32, y = (nI pp) + 1 := ⟨_, rfl⟩
                      refine lv_iinc (v := x_20) (lv' := [(4, Value.int x_20), (1, Value.int 1), (5, Value.int (nI (Lt pp))), (0, Value.ref xl), (2, Value.int mu), (3, Value.int ma)]) hx hb dX7_brokenAt_114 hl (k := 5) rfl (by rw [e_20]; rfl) (by decide) rfl (fun ls hl => ?_)
                      have h9 : x_20 = nI (pp + 1) := by rw [e_20, nI_1]
                      subst h9
                      refine lv_goto (tgt := 9) hx hb dX7_brokenAt_117 (by decide) ?_
                      exact ih_9 (pp + 1) 1 mu ma (by omega) (by omega) (hcs2) (cst_f hf hlt hcs2) _ _ _ (hP.sub [0, 1] rfl) (hD.sub [0, 1] (by decide) rfl) hS (lv_sub hl [3, 1, 4, 5, 0] rfl)
                · obtain ⟨x_21, e_21⟩ : ∃ y : Int32, y = ma + (-1) := ⟨_, rfl⟩
                  refine lv_iinc (v := x_21) (lv' := [(3, Value.int x_21), (5, Value.int (nI (Lt pp))), (0, Value.ref xl), (1, Value.int 0), (2, Value.int mu), (4, Value.int (nI pp))]) hx hb dX7_brokenAt_89 hl (k := 4) rfl (by rw [e_21]; rfl) (by decide) rfl (fun ls hl => ?_)
                  refine lv_goto (tgt := 114) hx hb dX7_brokenAt_92 (by decide) ?_
                  have hcs2 : CST (lrn Lt (pp + 1)) (0) (mu) (x_21) := by rw [e_21]; exact (cst_s hcs).2.1 ((dig_b (hL pp hlt).2 hz_61).2 c_8) (Int32.not_lt.mpr c_14) (Int32.not_le.mp c_17)
                  obtain ⟨x_22, e_22⟩ : ∃ y : Int32, y = (nI pp) + 1 := ⟨_, rfl⟩
                  refine lv_iinc (v := x_22) (lv' := [(4, Value.int x_22), (3, Value.int x_21), (5, Value.int (nI (Lt pp))), (0, Value.ref xl), (1, Value.int 0), (2, Value.int mu)]) hx hb dX7_brokenAt_114 hl (k := 5) rfl (by rw [e_22]; rfl) (by decide) rfl (fun ls hl => ?_)
                  have h9 : x_22 = nI (pp + 1) := by rw [e_22, nI_1]
                  subst h9
                  refine lv_goto (tgt := 9) hx hb dX7_brokenAt_117 (by decide) ?_
                  exact ih_9 (pp + 1) 0 mu x_21 (by omega) (by omega) (hcs2) (cst_f hf hlt hcs2) _ _ _ (hP.sub [0, 1] rfl) (hD.sub [0, 1] (by decide) rfl) hS (lv_sub hl [3, 4, 5, 1, 0] rfl)
            · obtain ⟨x_23, e_23⟩ : ∃ y : Int32, y = mu + (-1) := ⟨_, rfl⟩
              refine lv_iinc (v := x_23) (lv' := [(2, Value.int x_23), (5, Value.int (nI (Lt pp))), (0, Value.ref xl), (1, Value.int 0), (3, Value.int ma), (4, Value.int (nI pp))]) hx hb dX7_brokenAt_71 hl (k := 3) rfl (by rw [e_23]; rfl) (by decide) rfl (fun ls hl => ?_)
              refine lv_goto (tgt := 114) hx hb dX7_brokenAt_74 (by decide) ?_
              have hcs2 : CST (lrn Lt (pp + 1)) (0) (x_23) (ma) := by rw [e_23]; exact (cst_s hcs).1 ((dig_b (hL pp hlt).2 hz_61).2 c_8) (Int32.not_le.mp c_14)
              obtain ⟨x_24, e_24⟩ : ∃ y : Int32, y = (nI pp) + 1 := ⟨_, rfl⟩
              refine lv_iinc (v := x_24) (lv' := [(4, Value.int x_24), (2, Value.int x_23), (5, Value.int (nI (Lt pp))), (0, Value.ref xl), (1, Value.int 0), (3, Value.int ma)]) hx hb dX7_brokenAt_114 hl (k := 5) rfl (by rw [e_24]; rfl) (by decide) rfl (fun ls hl => ?_)
              have h9 : x_24 = nI (pp + 1) := by rw [e_24, nI_1]
              subst h9
              refine lv_goto (tgt := 9) hx hb dX7_brokenAt_117 (by decide) ?_
              exact ih_9 (pp + 1) 0 x_23 ma (by omega) (by omega) (hcs2) (cst_f hf hlt hcs2) _ _ _ (hP.sub [0, 1] rfl) (hD.sub [0, 1] (by decide) rfl) hS (lv_sub hl [3, 4, 1, 5, 0] rfl)
        · have hq0 := CST_0 hcs c_6
          refine lv_iload hx hb dX7_brokenAt_31 (lv_at hl 0 rfl) ?_
          have hpd9 := pdf_N (cx := []) hP hD hS hA [] (by decide) rfl
          have hPc := hpd9.1
          have hDc := hpd9.2.1
          have hFc := hpd9.2.2
          clear hpd9
          refine va_calli (va_runS (As := [Value.int (nI (Lt pp))]) (rest := []) ⟨hx, hb, hml, hown, hts⟩ (c_X7_digitsOf l dC dI aC H.size (nI (Lt pp)) ) ⟨(callB_of 1 hts (gG kw_299) rfl rfl rfl (hts _ (gw kw_3 rfl)) (hts _ (gw kw_297 rfl)) hd_X7_digitsOf ⟨Nat.le_of_ble_eq_true rfl, Nat.le_of_ble_eq_true rfl⟩), (hts _ (gw kw_298 rfl))⟩ ⟨fb_std, pre_std hPc hK hDc hN⟩ rfl rfl hl.1 rfl (lv_room (Nat.le_of_ble_eq_true rfl)) dX7_brokenAt_33 ⟨Nat.le_of_ble_eq_true rfl, Nat.le_of_ble_eq_true rfl⟩) hS (fun q _ h => hFc q h) hFc (fun x_25 u9 t9 H1 locs ht hvm hw_25 hB hz1 hk1 hS => ?_)
          obtain ⟨hP1, hK1, hD1⟩ := hB
          rw [ht] at hP1
          clear hK1
          try dsimp only at hw_25
          have hpd9 : PDx (dC, dI) classes A H1 [oX7 xl (nI lz) lsg, cC aC lsg 64 sg] := jn_N (wr := [oX7 xl (nI lz) lsg, cC aC lsg 64 sg]) hFc hk1 hP1 hD1 hP hD [] [0, 1] rfl rfl (by decide) (by decide)
          have hP := hpd9.1
          have hD := hpd9.2
          clear hpd9
          generalize H1 = H at hP hS ⊢
          clear hPc hDc hFc hz1 hk1 hP1 hD1 ht hvm
          have hz_33 := hw_25
          refine lv_istore_n (lv' := [(2, Value.int x_25), (5, Value.int (nI (Lt pp))), (0, Value.ref xl), (1, Value.int is), (3, Value.int ma), (4, Value.int (nI pp))]) hx hb dX7_brokenAt_36 rfl hl (by decide) rfl (fun ls hl => ?_)
          refine lv_iload hx hb dX7_brokenAt_37 (lv_at hl 1 rfl) ?_
          refine lv_bipush (v := 99) hx hb dX7_brokenAt_39 (by decide) ?_
          refine lv_icmp_ne (tgt := 48) hx hb dX7_brokenAt_41 (by decide) (fun c_26 => ?_) (fun c_26 => ?_)
          · refine lv_iconst (v := 0) hx hb dX7_brokenAt_48 (by decide) ?_
            refine lv_istore_n (lv' := [(3, Value.int 0), (2, Value.int x_25), (5, Value.int (nI (Lt pp))), (0, Value.ref xl), (1, Value.int is), (4, Value.int (nI pp))]) hx hb dX7_brokenAt_49 rfl hl (by decide) rfl (fun ls hl => ?_)
            refine lv_iconst (v := 0) hx hb dX7_brokenAt_50 (by decide) ?_
            refine lv_istore_n (lv' := [(1, Value.int 0), (3, Value.int 0), (2, Value.int x_25), (5, Value.int (nI (Lt pp))), (0, Value.ref xl), (4, Value.int (nI pp))]) hx hb dX7_brokenAt_51 rfl hl (by decide) rfl (fun ls hl => ?_)
            refine lv_iload_n hx hb dX7_brokenAt_52 rfl (lv_at hl 2 rfl) ?_
            refine lv_if_ne (tgt := 114) hx hb dX7_brokenAt_53 (by decide) (fun c_27 => ?_) (fun c_27 => ?_)
            · have hcs2 : CST (lrn Lt (pp + 1)) (0) (x_25) (0) := by
                show CST (lsp (lrn Lt pp) (Lt pp)) _ _ _
                rw [hq0]
                exact (cst_st0 (hL pp hlt).2 hz_33 (by rw [if_neg c_26])).1 c_27
              obtain ⟨x_28, e_28⟩ : ∃ y : Int32, y = (nI pp) + 1 := ⟨_, rfl⟩
              refine lv_iinc (v := x_28) (lv' := [(4, Value.int x_28), (1, Value.int 0), (3, Value.int 0), (2, Value.int x_25), (5, Value.int (nI (Lt pp))), (0, Value.ref xl)]) hx hb dX7_brokenAt_114 hl (k := 5) rfl (by rw [e_28]; rfl) (by decide) rfl (fun ls hl => ?_)
              have h9 : x_28 = nI (pp + 1) := by rw [e_28, nI_1]
              subst h9
              refine lv_goto (tgt := 9) hx hb dX7_brokenAt_117 (by decide) ?_
              exact ih_9 (pp + 1) 0 x_25 0 (by omega) (by omega) (hcs2) (cst_f hf hlt hcs2) _ _ _ (hP.sub [0, 1] rfl) (hD.sub [0, 1] (by decide) rfl) hS (lv_sub hl [5, 1, 3, 2, 0] rfl)
            · have h9 : lrn Lt (pp + 1) = 9 := by
                show lsp (lrn Lt pp) (Lt pp) = 9
                rw [hq0]
                exact (cst_st0 (hL pp hlt).2 hz_33 (by rw [if_neg c_26])).2 c_27
              refine lv_iload hx hb dX7_brokenAt_56 (lv_at hl 5 rfl) ?_
              have hpd9 := pd_N (cx := [oX7 xl (nI lz) lsg, cC aC lsg 64 sg]) hP hD [0, 1] (by decide) rfl
              have hP9 := hpd9.1
              have hD9 := hpd9.2
              refine W.widen (k := 0) (n := 0) (by omega) (by omega) ?_
              exact W.iret (v := nI pp) hx hb hr (fun t ht hW => ⟨⟨(nI pp), (), rfl, cst_r hf hlt h9, by rw [ht]; exact hP9, va_K.moved hW.alike hK, hD9⟩, hS.F ht⟩) hS.2.2 dX7_brokenAt_58
          · refine lv_iconst (v := 1) hx hb dX7_brokenAt_44 (by decide) ?_
            refine lv_goto (tgt := 49) hx hb dX7_brokenAt_45 (by decide) ?_
            refine lv_istore_n (lv' := [(3, Value.int 1), (2, Value.int x_25), (5, Value.int (nI (Lt pp))), (0, Value.ref xl), (1, Value.int is), (4, Value.int (nI pp))]) hx hb dX7_brokenAt_49 rfl hl (by decide) rfl (fun ls hl => ?_)
            refine lv_iconst (v := 0) hx hb dX7_brokenAt_50 (by decide) ?_
            refine lv_istore_n (lv' := [(1, Value.int 0), (3, Value.int 1), (2, Value.int x_25), (5, Value.int (nI (Lt pp))), (0, Value.ref xl), (4, Value.int (nI pp))]) hx hb dX7_brokenAt_51 rfl hl (by decide) rfl (fun ls hl => ?_)
            refine lv_iload_n hx hb dX7_brokenAt_52 rfl (lv_at hl 2 rfl) ?_
            refine lv_if_ne (tgt := 114) hx hb dX7_brokenAt_53 (by decide) (fun c_29 => ?_) (fun c_29 => ?_)
            · have hcs2 : CST (lrn Lt (pp + 1)) (0) (x_25) (1) := by
                show CST (lsp (lrn Lt pp) (Lt pp)) _ _ _
                rw [hq0]
                exact (cst_st0 (hL pp hlt).2 hz_33 (by rw [if_pos c_26])).1 c_29
              obtain ⟨x_30, e_30⟩ : ∃ y : Int32, y = (nI pp) + 1 := ⟨_, rfl⟩
              refine lv_iinc (v := x_30) (lv' := [(4, Value.int x_30), (1, Value.int 0), (3, Value.int 1), (2, Value.int x_25), (5, Value.int (nI (Lt pp))), (0, Value.ref xl)]) hx hb dX7_brokenAt_114 hl (k := 5) rfl (by rw [e_30]; rfl) (by decide) rfl (fun ls hl => ?_)
              have h9 : x_30 = nI (pp + 1) := by rw [e_30, nI_1]
              subst h9
              refine lv_goto (tgt := 9) hx hb dX7_brokenAt_117 (by decide) ?_
              exact ih_9 (pp + 1) 0 x_25 1 (by omega) (by omega) (hcs2) (cst_f hf hlt hcs2) _ _ _ (hP.sub [0, 1] rfl) (hD.sub [0, 1] (by decide) rfl) hS (lv_sub hl [5, 1, 3, 2, 0] rfl)
            · have h9 : lrn Lt (pp + 1) = 9 := by
                show lsp (lrn Lt pp) (Lt pp) = 9
                rw [hq0]
                exact (cst_st0 (hL pp hlt).2 hz_33 (by rw [if_pos c_26])).2 c_29
              refine lv_iload hx hb dX7_brokenAt_56 (lv_at hl 5 rfl) ?_
              have hpd9 := pd_N (cx := [oX7 xl (nI lz) lsg, cC aC lsg 64 sg]) hP hD [0, 1] (by decide) rfl
              have hP9 := hpd9.1
              have hD9 := hpd9.2
              refine W.widen (k := 0) (n := 0) (by omega) (by omega) ?_
              exact W.iret (v := nI pp) hx hb hr (fun t ht hW => ⟨⟨(nI pp), (), rfl, cst_r hf hlt h9, by rw [ht]; exact hP9, va_K.moved hW.alike hK, hD9⟩, hS.F ht⟩) hS.2.2 dX7_brokenAt_58
  exact lp_9 ((lz - 0) + 1) 0 1 0 0 (Nat.lt_succ_self _) (by omega) (Or.inl ⟨rfl, rfl⟩) (rfl) _ _ _ (hP.sub [0, 1] rfl) (hD.sub [0, 1] (by decide) rfl) hS (lv_sub hl [4, 3, 2, 1, 0] rfl)

end

section
/-! 82.lett4 -/
theorem rg_n1 {L : Nat → Nat} {s m : Nat} {dn : Int32} (h : L s = 109) (h2 : ¬ (L (s + 1) - 48 ≤ 6 ∧ 1 ≤ L (s + 3) - 48 ∧ m ≤ 8 ∧ dn = 0)) : ¬ RGQ L s m dn := fun q => h2 (q.1 h)
theorem rg_n2 {L : Nat → Nat} {s m : Nat} {dn : Int32} (h : L s = 108) (h2 : ¬ (L (s + 1) - 48 ≤ 2 ∧ L (s + 2) - 48 ≤ 1 ∧ L (s + 3) - 48 ≤ 1)) : ¬ RGQ L s m dn := fun q => h2 (q.2 h)
theorem rg_y1 {L : Nat → Nat} {s m : Nat} {dn : Int32} (h : L s = 109) (h2 : L (s + 1) - 48 ≤ 6 ∧ 1 ≤ L (s + 3) - 48 ∧ m ≤ 8 ∧ dn = 0) : RGQ L s m dn := ⟨fun _ => h2, fun q => by omega⟩
theorem rg_y2 {L : Nat → Nat} {s m : Nat} {dn : Int32} (h : L s = 108) (h2 : L (s + 1) - 48 ≤ 2 ∧ L (s + 2) - 48 ≤ 1 ∧ L (s + 3) - 48 ≤ 1) : RGQ L s m dn := ⟨fun q => by omega, fun _ => h2⟩
theorem rg_y3 {L : Nat → Nat} {s m : Nat} {dn : Int32} (h : ¬ L s = 109) (h2 : ¬ L s = 108) : RGQ L s m dn := ⟨fun q => absurd q h, fun q => absurd q h2⟩
theorem dg_v {L : Nat → Nat} {z q : Nat} {r : Int32} (h : r = if q < z then nI (L q) - 48 else 0) (hq : q < z) (hd : dig (L q)) : r = nI (L q - 48) := by rw [h, if_pos hq, dgv hd]
theorem le_of {a b : Nat} {x : Int32} (hx : x = nI a) (ha : a ≤ 255) (hb : b ≤ 255) : (nI b < x → ¬ a ≤ b) ∧ (¬ nI b < x → a ≤ b) := by
  subst hx
  exact ⟨fun q => by have := (nI_ltI (a := b) (b := a) (by omega) (by omega)).mp q; omega, fun q => Nat.le_of_not_lt fun z => q (nI_lt z (by omega))⟩
theorem ge_of {a : Nat} {x : Int32} (hx : x = nI a) (ha : a ≤ 255) : (x < 1 → ¬ 1 ≤ a) ∧ (¬ x < 1 → 1 ≤ a) := by
  subst hx
  exact ⟨fun q => by have := (nI_ltI (a := a) (b := 1) (by omega) (by omega)).mp q; omega, fun q => Nat.le_of_not_lt fun z => q (nI_lt (b := 1) z (by omega))⟩
theorem dig255 {x : Nat} (h : dig x) : x - 48 ≤ 255 := by unfold dig at h; omega

set_option maxHeartbeats 1000000 in
set_option maxRecDepth 100000 in
/-- X7_isRight -/
theorem c_X7_isRight (l : Launch) (dC : Nat → ClassId) (dI : Nat → Nat → Nat) (aC : Nat → ClassId) (sz : Nat) (xl : Nat) (lsg : Nat) (lz : Nat) (Lt : Nat → Nat) (sg : Nat → Int32) (s9 : Nat) (ee : Nat) (mm : Nat) (dn : Int32) (tG : Nat) (hlt0 : LTR lz Lt sg) (hst : STM Lt s9 ee) (hee : ee < lz) (hmm : mm ≤ 100) : Met l yX7_isRight (wW yX7_isRight cX7_isRight 7 (some .boolean)) ({ frames := 1, cells := 0, slots := 0, locals := 21 } : Room) (va_Pc [Value.ref xl, Value.int (nI s9), Value.int (nI mm), Value.int dn] (fun U => U.heap.size = sz ∧ va_P (dC, dI) classes [oX7 xl (nI lz) lsg, cC aC lsg 64 sg] U.heap ∧ va_K (dC, dI) classes (TY aC) U ∧ va_D (fun _ => True) [oX7 xl (nI lz) lsg, cC aC lsg 64 sg] ∧ NX U ∧ va_Z "EldestSays" "GREATEST" "[I" (.ref tG) (va_A [oX7 xl (nI lz) lsg, cC aC lsg 64 sg] sz) U U.heap ∧ va_T .int tG 5 (fun j => .int (GV j)) (va_A [oX7 xl (nI lz) lsg, cC aC lsg 64 sg] sz) U U.heap)) (va_Qi (fun (r : Int32) (_ : Unit) => (r = 0 → ¬ RGQ Lt s9 mm dn) ∧ (¬ r = 0 → RGQ Lt s9 mm dn)) (fun (_ : Unit) (t : State) => va_P (dC, dI) classes [oX7 xl (nI lz) lsg, cC aC lsg 64 sg] t.heap ∧ va_K (dC, dI) classes (TY aC) t ∧ va_D (va_A [oX7 xl (nI lz) lsg, cC aC lsg 64 sg] sz) [oX7 xl (nI lz) lsg, cC aC lsg 64 sg]) (va_A [oX7 xl (nI lz) lsg, cC aC lsg 64 sg] sz)) 0 0 (va_A [oX7 xl (nI lz) lsg, cC aC lsg 64 sg] sz) := by
  refine Met.ofW (cc := cX7_isRight) (maxL := 7) (ret := (some .boolean)) (by decide) rfl ?_
  intro p e s m args below meth c s₁ B hml hv
  obtain ⟨rfl, hsz, hP, hK, hD0, hN, hZG, hTG⟩ := hv
  have hx := B.exec
  have hb := B.bytes
  have hr := B.returns
  have hts0 := atoms_spec (ws := (wW yX7_isRight cX7_isRight 7 (some .boolean))) B.pre
  have hts : ∀ w9 ∈ lw_G, w9.before ([Value.ref xl, Value.int (nI s9), Value.int (nI mm), Value.int dn] : List Value).toArray s = true := fun w9 h9 => hts0 w9 (List.mem_cons_of_mem _ h9)
  have hown : s.vm.findClass RX7 = some m.cls := findClass_of_methodNamed (x := yX7_isRight) B.named
  have hlocks := B.notSynchronized
  subst hsz
  have hD := hD0.self (sz := s.heap.size)
  generalize hAe : va_A [oX7 xl (nI lz) lsg, cC aC lsg 64 sg] s.heap.size = A at hZG hTG hD ⊢
  have hA : ∀ q : Nat, s.heap.size ≤ q → A q := fun q h => by rw [← hAe]; exact Or.inr h
  obtain ⟨H, hHe⟩ : ∃ H : Heap, H = s.heap := ⟨_, rfl⟩
  have hS : va_S A s.heap H [] := by rw [hHe]; exact va_S.rf
  have hP : va_P (dC, dI) classes [oX7 xl (nI lz) lsg, cC aC lsg 64 sg] H := by rw [hHe]; exact hP
  have hl := lv_entry ([Value.ref xl, Value.int (nI s9), Value.int (nI mm), Value.int dn]) (n := 7) (Nat.le_of_ble_eq_true rfl)
  rw [lg_entry_eq]
  generalize (lg_sl ([Value.ref xl, Value.int (nI s9), Value.int (nI mm), Value.int dn]) ++ List.replicate (7 - (lg_sl ([Value.ref xl, Value.int (nI s9), Value.int (nI mm), Value.int dn])).length) Slot.unset).toArray = ls at hl ⊢
  have hl : lv_has ls 7 [(0, Value.ref xl), (1, Value.int (nI s9)), (2, Value.int (nI mm)), (3, Value.int dn)] := hl
  rw [← hHe]
  have hz6 := hlt0.1
  have hL := hlt0.2
  have hse := (STM_k hst).2
  refine lv_aload_n hx hb dX7_isRight_0 rfl (lv_at hl 0 rfl) ?_
  refine lv_iload_n hx hb dX7_isRight_1 rfl (lv_at hl 1 rfl) ?_
  refine lv_iconst (v := 1) hx hb dX7_isRight_2 (by decide) ?_
  refine lv_iadd hx hb dX7_isRight_3 ?_
  refine lv_topi (fun x_1 e_1 => ?_)
  have h9 : x_1 = nI (s9 + 1) := by rw [e_1, nI_1]
  subst h9
  have hpd9 := pdf_N (cx := [oX7 xl (nI lz) lsg, cC aC lsg 64 sg]) hP hD hS hA [0, 1] (by decide) rfl
  have hPc := hpd9.1
  have hDc := hpd9.2.1
  have hFc := hpd9.2.2
  clear hpd9
  refine va_calli (va_runV (As := [Value.int (nI (s9 + 1))]) (rest := []) ⟨hx, hb, hml, hown, hts⟩ (c_X7_digit l dC dI aC H.size xl lsg lz Lt sg (s9 + 1) (hlt0) (by omega)) ⟨(callB_of 1 hts (gG kw_314) rfl rfl rfl (hts _ (gw kw_3 rfl)) (hts _ (gw kw_311 rfl)) hd_X7_digit ⟨Nat.le_of_ble_eq_true rfl, Nat.le_of_ble_eq_true rfl⟩), (hts _ (gw kw_313 rfl)), (hts _ (gw ks_4 rfl))⟩ ⟨fb_std, va_recv (q := (RX7, TX7, 2)) hK hPc (ci := 7) (q0 := 0) rfl rfl, pre_std hPc hK hDc hN⟩ rfl rfl hl.1 rfl (lv_room (Nat.le_of_ble_eq_true rfl)) dX7_isRight_4 ⟨Nat.le_of_ble_eq_true rfl, Nat.le_of_ble_eq_true rfl⟩) hS (fun q _ h => hFc q h) hFc (fun x_2 u9 t9 H1 locs ht hvm hw_2 hB hz1 hk1 hS => ?_)
  obtain ⟨hP1, hK1, hD1⟩ := hB
  rw [ht] at hP1
  clear hK1
  try dsimp only at hw_2
  have hpd9 : PDx (dC, dI) classes A H1 [oX7 xl (nI lz) lsg, cC aC lsg 64 sg] := jn_N (wr := []) hFc hk1 hP1 hD1 hP hD [0, 1] [] rfl rfl (by decide) (by decide)
  have hP := hpd9.1
  have hD := hpd9.2
  clear hpd9
  generalize H1 = H at hP hS ⊢
  clear hPc hDc hFc hz1 hk1 hP1 hD1 ht hvm
  have hz_4 := hw_2
  refine lv_istore (lv' := [(4, Value.int x_2), (0, Value.ref xl), (1, Value.int (nI s9)), (2, Value.int (nI mm)), (3, Value.int dn)]) hx hb dX7_isRight_7 hl (by decide) rfl (fun ls hl => ?_)
  refine lv_aload_n hx hb dX7_isRight_9 rfl (lv_at hl 1 rfl) ?_
  refine lv_iload_n hx hb dX7_isRight_10 rfl (lv_at hl 2 rfl) ?_
  refine lv_iconst (v := 2) hx hb dX7_isRight_11 (by decide) ?_
  refine lv_iadd hx hb dX7_isRight_12 ?_
  refine lv_topi (fun x_3 e_3 => ?_)
  have h9 : x_3 = nI (s9 + 2) := by rw [e_3]; exact nI_add (s9) 2
  subst h9
  have hpd9 := pdf_N (cx := [oX7 xl (nI lz) lsg, cC aC lsg 64 sg]) hP hD hS hA [0, 1] (by decide) rfl
  have hPc := hpd9.1
  have hDc := hpd9.2.1
  have hFc := hpd9.2.2
  clear hpd9
  refine va_calli (va_runV (As := [Value.int (nI (s9 + 2))]) (rest := []) ⟨hx, hb, hml, hown, hts⟩ (c_X7_digit l dC dI aC H.size xl lsg lz Lt sg (s9 + 2) (hlt0) (by omega)) ⟨(callB_of 1 hts (gG kw_314) rfl rfl rfl (hts _ (gw kw_3 rfl)) (hts _ (gw kw_311 rfl)) hd_X7_digit ⟨Nat.le_of_ble_eq_true rfl, Nat.le_of_ble_eq_true rfl⟩), (hts _ (gw kw_313 rfl)), (hts _ (gw ks_4 rfl))⟩ ⟨fb_std, va_recv (q := (RX7, TX7, 2)) hK hPc (ci := 7) (q0 := 0) rfl rfl, pre_std hPc hK hDc hN⟩ rfl rfl hl.1 rfl (lv_room (Nat.le_of_ble_eq_true rfl)) dX7_isRight_13 ⟨Nat.le_of_ble_eq_true rfl, Nat.le_of_ble_eq_true rfl⟩) hS (fun q _ h => hFc q h) hFc (fun x_4 u9 t9 H1 locs ht hvm hw_4 hB hz1 hk1 hS => ?_)
  obtain ⟨hP1, hK1, hD1⟩ := hB
  rw [ht] at hP1
  clear hK1
  try dsimp only at hw_4
  have hpd9 : PDx (dC, dI) classes A H1 [oX7 xl (nI lz) lsg, cC aC lsg 64 sg] := jn_N (wr := []) hFc hk1 hP1 hD1 hP hD [0, 1] [] rfl rfl (by decide) (by decide)
  have hP := hpd9.1
  have hD := hpd9.2
  clear hpd9
  generalize H1 = H at hP hS ⊢
  clear hPc hDc hFc hz1 hk1 hP1 hD1 ht hvm
  have hz_13 := hw_4
  refine lv_istore (lv' := [(5, Value.int x_4), (4, Value.int x_2), (0, Value.ref xl), (1, Value.int (nI s9)), (2, Value.int (nI mm)), (3, Value.int dn)]) hx hb dX7_isRight_16 hl (by decide) rfl (fun ls hl => ?_)
  refine lv_aload_n hx hb dX7_isRight_18 rfl (lv_at hl 2 rfl) ?_
  refine lv_iload_n hx hb dX7_isRight_19 rfl (lv_at hl 3 rfl) ?_
  refine lv_iconst (v := 3) hx hb dX7_isRight_20 (by decide) ?_
  refine lv_iadd hx hb dX7_isRight_21 ?_
  refine lv_topi (fun x_5 e_5 => ?_)
  have h9 : x_5 = nI (s9 + 3) := by rw [e_5]; exact nI_add (s9) 3
  subst h9
  have hpd9 := pdf_N (cx := [oX7 xl (nI lz) lsg, cC aC lsg 64 sg]) hP hD hS hA [0, 1] (by decide) rfl
  have hPc := hpd9.1
  have hDc := hpd9.2.1
  have hFc := hpd9.2.2
  clear hpd9
  refine va_calli (va_runV (As := [Value.int (nI (s9 + 3))]) (rest := []) ⟨hx, hb, hml, hown, hts⟩ (c_X7_digit l dC dI aC H.size xl lsg lz Lt sg (s9 + 3) (hlt0) (by omega)) ⟨(callB_of 1 hts (gG kw_314) rfl rfl rfl (hts _ (gw kw_3 rfl)) (hts _ (gw kw_311 rfl)) hd_X7_digit ⟨Nat.le_of_ble_eq_true rfl, Nat.le_of_ble_eq_true rfl⟩), (hts _ (gw kw_313 rfl)), (hts _ (gw ks_4 rfl))⟩ ⟨fb_std, va_recv (q := (RX7, TX7, 2)) hK hPc (ci := 7) (q0 := 0) rfl rfl, pre_std hPc hK hDc hN⟩ rfl rfl hl.1 rfl (lv_room (Nat.le_of_ble_eq_true rfl)) dX7_isRight_22 ⟨Nat.le_of_ble_eq_true rfl, Nat.le_of_ble_eq_true rfl⟩) hS (fun q _ h => hFc q h) hFc (fun x_6 u9 t9 H1 locs ht hvm hw_6 hB hz1 hk1 hS => ?_)
  obtain ⟨hP1, hK1, hD1⟩ := hB
  rw [ht] at hP1
  clear hK1
  try dsimp only at hw_6
  have hpd9 : PDx (dC, dI) classes A H1 [oX7 xl (nI lz) lsg, cC aC lsg 64 sg] := jn_N (wr := []) hFc hk1 hP1 hD1 hP hD [0, 1] [] rfl rfl (by decide) (by decide)
  have hP := hpd9.1
  have hD := hpd9.2
  clear hpd9
  generalize H1 = H at hP hS ⊢
  clear hPc hDc hFc hz1 hk1 hP1 hD1 ht hvm
  have hz_22 := hw_6
  refine lv_istore (lv' := [(6, Value.int x_6), (5, Value.int x_4), (4, Value.int x_2), (0, Value.ref xl), (1, Value.int (nI s9)), (2, Value.int (nI mm)), (3, Value.int dn)]) hx hb dX7_isRight_25 hl (by decide) rfl (fun ls hl => ?_)
  refine lv_aload_n hx hb dX7_isRight_27 rfl (lv_at hl 3 rfl) ?_
  refine va_get (D := (dC, dI)) (ci := 7) (v := Value.ref lsg) (C := RX7) (T := TX7) (N := 2) hx hb hts inX7 hown hK hP 0 rfl rfl 1 (by decide) (hts _ (gw kw_82 rfl)) (fun _ h9 => h9) rfl dX7_isRight_28 ?_
  refine lv_iload_n hx hb dX7_isRight_31 rfl (lv_at hl 4 rfl) ?_
  have h_7 : vp_in (nI s9) 64 := vp_in_nI (by omega) (by omega)
  refine va_cald hx hb hK hP 1 1 rfl rfl h_7 dX7_isRight_32 ?_
  refine lv_topi (fun x_8 e_8 => ?_)
  have h9 : x_8 = nI (Lt s9) := by rw [e_8, nI_clamp (by omega)]; exact (hL s9 (by omega)).1
  subst h9
  refine lv_bipush (v := 109) hx hb dX7_isRight_33 (by decide) ?_
  refine lv_icmp_ne (tgt := 67) hx hb dX7_isRight_35 (by decide) (fun c_9 => ?_) (fun c_9 => ?_)
  · refine lv_aload_n hx hb dX7_isRight_67 rfl (lv_at hl 3 rfl) ?_
    refine va_get (D := (dC, dI)) (ci := 7) (v := Value.ref lsg) (C := RX7) (T := TX7) (N := 2) hx hb hts inX7 hown hK hP 0 rfl rfl 1 (by decide) (hts _ (gw kw_82 rfl)) (fun _ h9 => h9) rfl dX7_isRight_68 ?_
    refine lv_iload_n hx hb dX7_isRight_71 rfl (lv_at hl 4 rfl) ?_
    have h_10 : vp_in (nI s9) 64 := vp_in_nI (by omega) (by omega)
    refine va_cald hx hb hK hP 1 1 rfl rfl h_10 dX7_isRight_72 ?_
    refine lv_topi (fun x_11 e_11 => ?_)
    have h9 : x_11 = nI (Lt s9) := by rw [e_11, nI_clamp (by omega)]; exact (hL s9 (by omega)).1
    subst h9
    refine lv_bipush (v := 108) hx hb dX7_isRight_73 (by decide) ?_
    refine lv_icmp_ne (tgt := 114) hx hb dX7_isRight_75 (by decide) (fun c_12 => ?_) (fun c_12 => ?_)
    · refine lv_iconst (v := 1) hx hb dX7_isRight_114 (by decide) ?_
      have hpd9 := pd_N (cx := [oX7 xl (nI lz) lsg, cC aC lsg 64 sg]) hP hD [0, 1] (by decide) rfl
      have hP9 := hpd9.1
      have hD9 := hpd9.2
      refine W.widen (k := 0) (n := 0) (by omega) (by omega) ?_
      exact W.zret (v := 1) hx hb hr rfl (fun t ht hW => ⟨⟨1, (), rfl, ⟨fun q => absurd q (by decide), fun _ => rg_y3 (fun z => c_9 (by rw [z]; rfl)) (fun z => c_12 (by rw [z]; rfl))⟩, by rw [ht]; exact hP9, va_K.moved hW.alike hK, hD9⟩, hS.F ht⟩) hS.2.2 dX7_isRight_115
    · have hm8 : Lt s9 = 108 := (nI_b0 (k := 108) (hL s9 (by omega)).2 (by omega)).mp c_12
      obtain ⟨he4, hd1, hd2, hd3⟩ := STM_d hst (Or.inr hm8)
      have hv1 := dg_v hz_4 (by omega) hd1
      have hv2 := dg_v hz_13 (by omega) hd2
      have hv3 := dg_v hz_22 (by omega) hd3
      refine lv_iload hx hb dX7_isRight_78 (lv_at hl 2 rfl) ?_
      refine va_getsN (v := .ref tG) hx hb hZG hS hown (va_Nw.use rfl (hN.1 _ kw_315 rfl)) (fun _ h9 => h9) dX7_isRight_80 ?_
      refine lv_iconst (v := 1) hx hb dX7_isRight_83 (by decide) ?_
      have h_13 : vp_in 1 5 := by unfold vp_in; decide
      refine va_ti hx hb hTG hS h_13 rfl dX7_isRight_84 ?_
      refine lv_topi (fun x_14 e_14 => ?_)
      have h9 : x_14 = 2 := by rw [e_14]; rfl
      subst h9
      refine lv_icmp_gt (tgt := 112) hx hb dX7_isRight_85 (by decide) (fun c_15 => ?_) (fun c_15 => ?_)
      · refine lv_iconst (v := 0) hx hb dX7_isRight_112 (by decide) ?_
        have hpd9 := pd_N (cx := [oX7 xl (nI lz) lsg, cC aC lsg 64 sg]) hP hD [0, 1] (by decide) rfl
        have hP9 := hpd9.1
        have hD9 := hpd9.2
        refine W.widen (k := 0) (n := 0) (by omega) (by omega) ?_
        exact W.zret (v := 0) hx hb hr rfl (fun t ht hW => ⟨⟨0, (), rfl, ⟨fun _ => rg_n2 hm8 (fun z => (le_of (b := 2) hv1 (dig255 hd1) (by omega)).1 c_15 z.1), fun q => absurd rfl q⟩, by rw [ht]; exact hP9, va_K.moved hW.alike hK, hD9⟩, hS.F ht⟩) hS.2.2 dX7_isRight_113
      · refine lv_iload hx hb dX7_isRight_88 (lv_at hl 1 rfl) ?_
        refine va_getsN (v := .ref tG) hx hb hZG hS hown (va_Nw.use rfl (hN.1 _ kw_315 rfl)) (fun _ h9 => h9) dX7_isRight_90 ?_
        refine lv_iconst (v := 2) hx hb dX7_isRight_93 (by decide) ?_
        have h_16 : vp_in 2 5 := by unfold vp_in; decide
        refine va_ti hx hb hTG hS h_16 rfl dX7_isRight_94 ?_
        refine lv_topi (fun x_17 e_17 => ?_)
        have h9 : x_17 = 1 := by rw [e_17]; rfl
        subst h9
        refine lv_icmp_gt (tgt := 112) hx hb dX7_isRight_95 (by decide) (fun c_18 => ?_) (fun c_18 => ?_)
        · refine lv_iconst (v := 0) hx hb dX7_isRight_112 (by decide) ?_
          have hpd9 := pd_N (cx := [oX7 xl (nI lz) lsg, cC aC lsg 64 sg]) hP hD [0, 1] (by decide) rfl
          have hP9 := hpd9.1
          have hD9 := hpd9.2
          refine W.widen (k := 0) (n := 0) (by omega) (by omega) ?_
          exact W.zret (v := 0) hx hb hr rfl (fun t ht hW => ⟨⟨0, (), rfl, ⟨fun _ => rg_n2 hm8 (fun z => (le_of (b := 1) hv2 (dig255 hd2) (by omega)).1 c_18 z.2.1), fun q => absurd rfl q⟩, by rw [ht]; exact hP9, va_K.moved hW.alike hK, hD9⟩, hS.F ht⟩) hS.2.2 dX7_isRight_113
        · refine lv_iload hx hb dX7_isRight_98 (lv_at hl 0 rfl) ?_
          refine va_getsN (v := .ref tG) hx hb hZG hS hown (va_Nw.use rfl (hN.1 _ kw_315 rfl)) (fun _ h9 => h9) dX7_isRight_100 ?_
          refine lv_iconst (v := 3) hx hb dX7_isRight_103 (by decide) ?_
          have h_19 : vp_in 3 5 := by unfold vp_in; decide
          refine va_ti hx hb hTG hS h_19 rfl dX7_isRight_104 ?_
          refine lv_topi (fun x_20 e_20 => ?_)
          have h9 : x_20 = 1 := by rw [e_20]; rfl
          subst h9
          refine lv_icmp_gt (tgt := 112) hx hb dX7_isRight_105 (by decide) (fun c_21 => ?_) (fun c_21 => ?_)
          · refine lv_iconst (v := 0) hx hb dX7_isRight_112 (by decide) ?_
            have hpd9 := pd_N (cx := [oX7 xl (nI lz) lsg, cC aC lsg 64 sg]) hP hD [0, 1] (by decide) rfl
            have hP9 := hpd9.1
            have hD9 := hpd9.2
            refine W.widen (k := 0) (n := 0) (by omega) (by omega) ?_
            exact W.zret (v := 0) hx hb hr rfl (fun t ht hW => ⟨⟨0, (), rfl, ⟨fun _ => rg_n2 hm8 (fun z => (le_of (b := 1) hv3 (dig255 hd3) (by omega)).1 c_21 z.2.2), fun q => absurd rfl q⟩, by rw [ht]; exact hP9, va_K.moved hW.alike hK, hD9⟩, hS.F ht⟩) hS.2.2 dX7_isRight_113
          · refine lv_iconst (v := 1) hx hb dX7_isRight_108 (by decide) ?_
            refine lv_goto (tgt := 113) hx hb dX7_isRight_109 (by decide) ?_
            have hpd9 := pd_N (cx := [oX7 xl (nI lz) lsg, cC aC lsg 64 sg]) hP hD [0, 1] (by decide) rfl
            have hP9 := hpd9.1
            have hD9 := hpd9.2
            refine W.widen (k := 0) (n := 0) (by omega) (by omega) ?_
            exact W.zret (v := 1) hx hb hr rfl (fun t ht hW => ⟨⟨1, (), rfl, ⟨fun q => absurd q (by decide), fun _ => rg_y2 hm8 ⟨(le_of (b := 2) hv1 (dig255 hd1) (by omega)).2 c_15, (le_of (b := 1) hv2 (dig255 hd2) (by omega)).2 c_18, (le_of (b := 1) hv3 (dig255 hd3) (by omega)).2 c_21⟩⟩, by rw [ht]; exact hP9, va_K.moved hW.alike hK, hD9⟩, hS.F ht⟩) hS.2.2 dX7_isRight_113
  · have hm9 : Lt s9 = 109 := (nI_b0 (k := 109) (hL s9 (by omega)).2 (by omega)).mp c_9
    obtain ⟨he4, hd1, hd2, hd3⟩ := STM_d hst (Or.inl hm9)
    have hv1 := dg_v hz_4 (by omega) hd1
    have hv3 := dg_v hz_22 (by omega) hd3
    refine lv_iload hx hb dX7_isRight_38 (lv_at hl 2 rfl) ?_
    refine lv_bipush (v := 6) hx hb dX7_isRight_40 (by decide) ?_
    refine lv_icmp_gt (tgt := 65) hx hb dX7_isRight_42 (by decide) (fun c_22 => ?_) (fun c_22 => ?_)
    · refine lv_iconst (v := 0) hx hb dX7_isRight_65 (by decide) ?_
      have hpd9 := pd_N (cx := [oX7 xl (nI lz) lsg, cC aC lsg 64 sg]) hP hD [0, 1] (by decide) rfl
      have hP9 := hpd9.1
      have hD9 := hpd9.2
      refine W.widen (k := 0) (n := 0) (by omega) (by omega) ?_
      exact W.zret (v := 0) hx hb hr rfl (fun t ht hW => ⟨⟨0, (), rfl, ⟨fun _ => rg_n1 hm9 (fun z => (le_of (b := 6) hv1 (dig255 hd1) (by omega)).1 c_22 z.1), fun q => absurd rfl q⟩, by rw [ht]; exact hP9, va_K.moved hW.alike hK, hD9⟩, hS.F ht⟩) hS.2.2 dX7_isRight_66
    · refine lv_iload hx hb dX7_isRight_45 (lv_at hl 0 rfl) ?_
      refine lv_iconst (v := 1) hx hb dX7_isRight_47 (by decide) ?_
      refine lv_icmp_lt (tgt := 65) hx hb dX7_isRight_48 (by decide) (fun c_23 => ?_) (fun c_23 => ?_)
      · refine lv_iconst (v := 0) hx hb dX7_isRight_65 (by decide) ?_
        have hpd9 := pd_N (cx := [oX7 xl (nI lz) lsg, cC aC lsg 64 sg]) hP hD [0, 1] (by decide) rfl
        have hP9 := hpd9.1
        have hD9 := hpd9.2
        refine W.widen (k := 0) (n := 0) (by omega) (by omega) ?_
        exact W.zret (v := 0) hx hb hr rfl (fun t ht hW => ⟨⟨0, (), rfl, ⟨fun _ => rg_n1 hm9 (fun z => (ge_of hv3 (dig255 hd3)).1 c_23 z.2.1), fun q => absurd rfl q⟩, by rw [ht]; exact hP9, va_K.moved hW.alike hK, hD9⟩, hS.F ht⟩) hS.2.2 dX7_isRight_66
      · refine lv_iload_n hx hb dX7_isRight_51 rfl (lv_at hl 5 rfl) ?_
        refine lv_bipush (v := 8) hx hb dX7_isRight_52 (by decide) ?_
        refine lv_icmp_gt (tgt := 65) hx hb dX7_isRight_54 (by decide) (fun c_24 => ?_) (fun c_24 => ?_)
        · refine lv_iconst (v := 0) hx hb dX7_isRight_65 (by decide) ?_
          have hpd9 := pd_N (cx := [oX7 xl (nI lz) lsg, cC aC lsg 64 sg]) hP hD [0, 1] (by decide) rfl
          have hP9 := hpd9.1
          have hD9 := hpd9.2
          refine W.widen (k := 0) (n := 0) (by omega) (by omega) ?_
          exact W.zret (v := 0) hx hb hr rfl (fun t ht hW => ⟨⟨0, (), rfl, ⟨fun _ => rg_n1 hm9 (fun z => (le_of (a := mm) (b := 8) rfl (by omega) (by omega)).1 c_24 z.2.2.1), fun q => absurd rfl q⟩, by rw [ht]; exact hP9, va_K.moved hW.alike hK, hD9⟩, hS.F ht⟩) hS.2.2 dX7_isRight_66
        · refine lv_iload_n hx hb dX7_isRight_57 rfl (lv_at hl 6 rfl) ?_
          refine lv_if_ne (tgt := 65) hx hb dX7_isRight_58 (by decide) (fun c_25 => ?_) (fun c_25 => ?_)
          · refine lv_iconst (v := 0) hx hb dX7_isRight_65 (by decide) ?_
            have hpd9 := pd_N (cx := [oX7 xl (nI lz) lsg, cC aC lsg 64 sg]) hP hD [0, 1] (by decide) rfl
            have hP9 := hpd9.1
            have hD9 := hpd9.2
            refine W.widen (k := 0) (n := 0) (by omega) (by omega) ?_
            exact W.zret (v := 0) hx hb hr rfl (fun t ht hW => ⟨⟨0, (), rfl, ⟨fun _ => rg_n1 hm9 (fun z => c_25 z.2.2.2), fun q => absurd rfl q⟩, by rw [ht]; exact hP9, va_K.moved hW.alike hK, hD9⟩, hS.F ht⟩) hS.2.2 dX7_isRight_66
          · refine lv_iconst (v := 1) hx hb dX7_isRight_61 (by decide) ?_
            refine lv_goto (tgt := 66) hx hb dX7_isRight_62 (by decide) ?_
            have hpd9 := pd_N (cx := [oX7 xl (nI lz) lsg, cC aC lsg 64 sg]) hP hD [0, 1] (by decide) rfl
            have hP9 := hpd9.1
            have hD9 := hpd9.2
            refine W.widen (k := 0) (n := 0) (by omega) (by omega) ?_
            exact W.zret (v := 1) hx hb hr rfl (fun t ht hW => ⟨⟨1, (), rfl, ⟨fun q => absurd q (by decide), fun _ => rg_y1 hm9 ⟨(le_of (b := 6) hv1 (dig255 hd1) (by omega)).2 c_22, (ge_of hv3 (dig255 hd3)).2 c_23, (le_of (a := mm) (b := 8) rfl (by omega) (by omega)).2 c_24, c_25⟩⟩, by rw [ht]; exact hP9, va_K.moved hW.alike hK, hD9⟩, hS.F ht⟩) hS.2.2 dX7_isRight_66

set_option maxHeartbeats 1000000 in
set_option maxRecDepth 100000 in
/-- X7_wrongAt -/
theorem c_X7_wrongAt (l : Launch) (dC : Nat → ClassId) (dI : Nat → Nat → Nat) (aC : Nat → ClassId) (sz : Nat) (xl : Nat) (lsg : Nat) (lz : Nat) (Lt : Nat → Nat) (sg : Nat → Int32) (h1 : Nat) (ek : Nat) (ef : Nat) (ew : Nat) (ep : Nat) (es : Nat) (n : Nat) (sy : Int32) (dn : Int32) (tG : Nat) (hlt0 : LTR lz Lt sg) (hnb : lrn Lt lz ≠ 9) (hn : n ≤ 8) : Met l yX7_wrongAt (wW yX7_wrongAt cX7_wrongAt 5 (some .int)) ({ frames := 2, cells := 0, slots := 0, locals := 47 } : Room) (va_Pc [Value.ref xl, Value.ref h1] (fun U => U.heap.size = sz ∧ va_P (dC, dI) classes [oX7 xl (nI lz) lsg, cC aC lsg 64 sg, oX4 h1 ek ef ew ep es (nI n) sy dn] U.heap ∧ va_K (dC, dI) classes (TY aC) U ∧ va_D (fun _ => True) [oX7 xl (nI lz) lsg, cC aC lsg 64 sg, oX4 h1 ek ef ew ep es (nI n) sy dn] ∧ NX U ∧ va_Z "EldestSays" "GREATEST" "[I" (.ref tG) (va_A [oX7 xl (nI lz) lsg, cC aC lsg 64 sg, oX4 h1 ek ef ew ep es (nI n) sy dn] sz) U U.heap ∧ va_T .int tG 5 (fun j => .int (GV j)) (va_A [oX7 xl (nI lz) lsg, cC aC lsg 64 sg, oX4 h1 ek ef ew ep es (nI n) sy dn] sz) U U.heap)) (va_Qi (fun (r : Int32) (_ : Unit) => r = fwr Lt n dn 0 lz) (fun (_ : Unit) (t : State) => va_P (dC, dI) classes [oX7 xl (nI lz) lsg, cC aC lsg 64 sg, oX4 h1 ek ef ew ep es (nI n) sy dn] t.heap ∧ va_K (dC, dI) classes (TY aC) t ∧ va_D (va_A [oX7 xl (nI lz) lsg, cC aC lsg 64 sg, oX4 h1 ek ef ew ep es (nI n) sy dn] sz) [oX7 xl (nI lz) lsg, cC aC lsg 64 sg, oX4 h1 ek ef ew ep es (nI n) sy dn]) (va_A [oX7 xl (nI lz) lsg, cC aC lsg 64 sg, oX4 h1 ek ef ew ep es (nI n) sy dn] sz)) 0 0 (va_A [oX7 xl (nI lz) lsg, cC aC lsg 64 sg, oX4 h1 ek ef ew ep es (nI n) sy dn] sz) := by
  refine Met.ofW (cc := cX7_wrongAt) (maxL := 5) (ret := (some .int)) (by decide) rfl ?_
  intro p e s m args below meth c s₁ B hml hv
  obtain ⟨rfl, hsz, hP, hK, hD0, hN, hZG, hTG⟩ := hv
  have hx := B.exec
  have hb := B.bytes
  have hr := B.returns
  have hts0 := atoms_spec (ws := (wW yX7_wrongAt cX7_wrongAt 5 (some .int))) B.pre
  have hts : ∀ w9 ∈ lw_G, w9.before ([Value.ref xl, Value.ref h1] : List Value).toArray s = true := fun w9 h9 => hts0 w9 (List.mem_cons_of_mem _ h9)
  have hown : s.vm.findClass RX7 = some m.cls := findClass_of_methodNamed (x := yX7_wrongAt) B.named
  have hlocks := B.notSynchronized
  subst hsz
  have hD := hD0.self (sz := s.heap.size)
  generalize hAe : va_A [oX7 xl (nI lz) lsg, cC aC lsg 64 sg, oX4 h1 ek ef ew ep es (nI n) sy dn] s.heap.size = A at hZG hTG hD ⊢
  have hA : ∀ q : Nat, s.heap.size ≤ q → A q := fun q h => by rw [← hAe]; exact Or.inr h
  obtain ⟨H, hHe⟩ : ∃ H : Heap, H = s.heap := ⟨_, rfl⟩
  have hS : va_S A s.heap H [] := by rw [hHe]; exact va_S.rf
  have hP : va_P (dC, dI) classes [oX7 xl (nI lz) lsg, cC aC lsg 64 sg, oX4 h1 ek ef ew ep es (nI n) sy dn] H := by rw [hHe]; exact hP
  have hl := lv_entry ([Value.ref xl, Value.ref h1]) (n := 5) (Nat.le_of_ble_eq_true rfl)
  rw [lg_entry_eq]
  generalize (lg_sl ([Value.ref xl, Value.ref h1]) ++ List.replicate (5 - (lg_sl ([Value.ref xl, Value.ref h1])).length) Slot.unset).toArray = ls at hl ⊢
  have hl : lv_has ls 5 [(0, Value.ref xl), (1, Value.ref h1)] := hl
  rw [← hHe]
  have hz6 := hlt0.1
  have hL := hlt0.2
  refine lv_aload_n hx hb dX7_wrongAt_0 rfl (lv_at hl 1 rfl) ?_
  refine va_get (D := (dC, dI)) (ci := 4) (v := Value.int (nI n)) (C := RX4) (T := TX4) (N := 8) hx hb hts inX4 hown hK hP 2 rfl rfl 5 (by decide) (hts _ (gw kw_49 rfl)) (fun _ h9 => h9) rfl dX7_wrongAt_1 ?_
  refine lv_istore_n (lv' := [(2, Value.int (nI n)), (0, Value.ref xl), (1, Value.ref h1)]) hx hb dX7_wrongAt_4 rfl hl (by decide) rfl (fun ls hl => ?_)
  refine lv_iconst (v := 0) hx hb dX7_wrongAt_5 (by decide) ?_
  refine lv_istore_n (lv' := [(3, Value.int 0), (2, Value.int (nI n)), (0, Value.ref xl), (1, Value.ref h1)]) hx hb dX7_wrongAt_6 rfl hl (by decide) rfl (fun ls hl => ?_)
  refine lv_iconst (v := 0) hx hb dX7_wrongAt_7 (by decide) ?_
  refine lv_istore (lv' := [(4, Value.int 0), (3, Value.int 0), (2, Value.int (nI n)), (0, Value.ref xl), (1, Value.ref h1)]) hx hb dX7_wrongAt_8 hl (by decide) rfl (fun ls hl => ?_)
  have lp_10 : ∀ (fu : Nat) (pp : Nat) (hfu : lz - pp < fu) (hp : pp ≤ lz) (hf : fwr Lt n dn 0 lz = fwr Lt n dn pp (lz - pp)) (H : Heap) (locs : List Loc) (ls : Array Slot), va_P (dC, dI) classes [oX7 xl (nI lz) lsg, cC aC lsg 64 sg, oX4 h1 ek ef ew ep es (nI n) sy dn] H → va_D A [oX7 xl (nI lz) lsg, cC aC lsg 64 sg, oX4 h1 ek ef ew ep es (nI n) sy dn] → va_S A s.heap H locs → lv_has ls 5 [(0, Value.ref xl), (1, Value.ref h1), (2, Value.int (nI (n + cm Lt pp))), (3, Value.int (nI (lst Lt pp))), (4, Value.int (nI pp))] → W p l e (headSpec (wW yX7_wrongAt cX7_wrongAt 5 (some .int)) ({ frames := 2, cells := 0, slots := 0, locals := 47 } : Room)).room s m ([Value.ref xl, Value.ref h1] : List Value).toArray below meth c H locs 0 0 (MQ below (va_Qi (fun (r : Int32) (_ : Unit) => r = fwr Lt n dn 0 lz) (fun (_ : Unit) (t : State) => va_P (dC, dI) classes [oX7 xl (nI lz) lsg, cC aC lsg 64 sg, oX4 h1 ek ef ew ep es (nI n) sy dn] t.heap ∧ va_K (dC, dI) classes (TY aC) t ∧ va_D A [oX7 xl (nI lz) lsg, cC aC lsg 64 sg, oX4 h1 ek ef ew ep es (nI n) sy dn]) A) ([Value.ref xl, Value.ref h1] : List Value).toArray s 0 0 A) (F0 m 10 ls []) := by
    intro fu
    induction fu with
    | zero => intro pp hfu; exact absurd hfu (Nat.not_lt_zero _)
    | succ fu ih_10 =>
      intro pp hfu hp hf H locs ls hP hD hS hl
      refine lv_iload hx hb dX7_wrongAt_10 (lv_at hl 4 rfl) ?_
      refine lv_aload_n hx hb dX7_wrongAt_12 rfl (lv_at hl 0 rfl) ?_
      refine va_get (D := (dC, dI)) (ci := 7) (v := Value.int (nI lz)) (C := RX7) (T := TX7) (N := 2) hx hb hts inX7 hown hK hP 0 rfl rfl 0 (by decide) (hts _ (gw kw_80 rfl)) (fun _ h9 => h9) rfl dX7_wrongAt_13 ?_
      refine lv_icmp_ge (tgt := 71) hx hb dX7_wrongAt_16 (by decide) (fun c_1 => ?_) (fun c_1 => ?_)
      · have hpz : pp = lz := by
          rcases Nat.lt_or_ge pp lz with q | q
          · exact absurd c_1 (nI_ge q (by omega))
          · omega
        refine lv_bipush (v := -9) hx hb dX7_wrongAt_71 (by decide) ?_
        have hpd9 := pd_N (cx := [oX7 xl (nI lz) lsg, cC aC lsg 64 sg, oX4 h1 ek ef ew ep es (nI n) sy dn]) hP hD [0, 1, 2] (by decide) rfl
        have hP9 := hpd9.1
        have hD9 := hpd9.2
        refine W.widen (k := 0) (n := 0) (by omega) (by omega) ?_
        exact W.iret (v := -9) hx hb hr (fun t ht hW => ⟨⟨(-9), (), rfl, by rw [hf]; subst hpz; rw [Nat.sub_self]; rfl, by rw [ht]; exact hP9, va_K.moved hW.alike hK, hD9⟩, hS.F ht⟩) hS.2.2 dX7_wrongAt_73
      · have hlt : pp < lz := by
          rcases Nat.lt_or_ge pp lz with q | q
          · exact q
          · exact absurd (nI_le q (by omega)) c_1
        refine lv_aload_n hx hb dX7_wrongAt_19 rfl (lv_at hl 0 rfl) ?_
        refine va_get (D := (dC, dI)) (ci := 7) (v := Value.ref lsg) (C := RX7) (T := TX7) (N := 2) hx hb hts inX7 hown hK hP 0 rfl rfl 1 (by decide) (hts _ (gw kw_82 rfl)) (fun _ h9 => h9) rfl dX7_wrongAt_20 ?_
        refine lv_iload hx hb dX7_wrongAt_23 (lv_at hl 4 rfl) ?_
        have h_2 : vp_in (nI pp) 64 := vp_in_nI (by omega) (by omega)
        refine va_cald hx hb hK hP 1 1 rfl rfl h_2 dX7_wrongAt_25 ?_
        refine lv_topi (fun x_3 e_3 => ?_)
        have h9 : x_3 = nI (Lt pp) := by rw [e_3, nI_clamp (by omega)]; exact (hL pp (by omega)).1
        subst h9
        refine lv_bipush (v := 59) hx hb dX7_wrongAt_26 (by decide) ?_
        refine lv_icmp_ne (tgt := 65) hx hb dX7_wrongAt_28 (by decide) (fun c_4 => ?_) (fun c_4 => ?_)
        · have hne : ¬ Lt pp = 59 := fun z => c_4 (by rw [z]; rfl)
          have hf2 : fwr Lt n dn 0 lz = fwr Lt n dn (pp + 1) (lz - (pp + 1)) := by rw [hf, fwr_s hlt, if_neg (fun z => hne z.1)]
          have hl : lv_has ls 5 [(0, Value.ref xl), (1, Value.ref h1), (2, Value.int (nI (n + cm Lt (pp + 1)))), (3, Value.int (nI (lst Lt pp))), (4, Value.int (nI pp))] := by rw [← (show nI (n + cm Lt pp) = nI (n + cm Lt (pp + 1)) by rw [cm_no (fun z => hne z.1)])]; exact hl
          have hl : lv_has ls 5 [(0, Value.ref xl), (1, Value.ref h1), (2, Value.int (nI (n + cm Lt (pp + 1)))), (3, Value.int (nI (lst Lt (pp + 1)))), (4, Value.int (nI pp))] := by rw [← (show nI (lst Lt pp) = nI (lst Lt (pp + 1)) by rw [lst_no hne])]; exact hl
          obtain ⟨x_5, e_5⟩ : ∃ y : Int32, y = (nI pp) + 1 := ⟨_, rfl⟩
          refine lv_iinc (v := x_5) (lv' := [(4, Value.int x_5), (0, Value.ref xl), (1, Value.ref h1), (2, Value.int (nI (n + cm Lt (pp + 1)))), (3, Value.int (nI (lst Lt (pp + 1))))]) hx hb dX7_wrongAt_65 hl (k := 4) rfl (by rw [e_5]; rfl) (by decide) rfl (fun ls hl => ?_)
          have h9 : x_5 = nI (pp + 1) := by rw [e_5, nI_1]
          subst h9
          refine lv_goto (tgt := 10) hx hb dX7_wrongAt_68 (by decide) ?_
          exact ih_10 (pp + 1) (by omega) (by omega) (hf2) _ _ _ (hP.sub [0, 1, 2] rfl) (hD.sub [0, 1, 2] (by decide) rfl) hS (lv_sub hl [1, 2, 3, 4, 0] rfl)
        · have hsem : Lt pp = 59 := (nI_b0 (k := 59) (hL pp hlt).2 (by omega)).mp c_4
          have hst := STM_r hnb hlt hsem
          have hse := (STM_k hst).2
          refine lv_aload_n hx hb dX7_wrongAt_31 rfl (lv_at hl 0 rfl) ?_
          refine va_get (D := (dC, dI)) (ci := 7) (v := Value.ref lsg) (C := RX7) (T := TX7) (N := 2) hx hb hts inX7 hown hK hP 0 rfl rfl 1 (by decide) (hts _ (gw kw_82 rfl)) (fun _ h9 => h9) rfl dX7_wrongAt_32 ?_
          refine lv_iload_n hx hb dX7_wrongAt_35 rfl (lv_at hl 3 rfl) ?_
          have h_6 : vp_in (nI (lst Lt pp)) 64 := vp_in_nI (by omega) (by omega)
          refine va_cald hx hb hK hP 1 1 rfl rfl h_6 dX7_wrongAt_36 ?_
          refine lv_topi (fun x_7 e_7 => ?_)
          have h9 : x_7 = nI (Lt (lst Lt pp)) := by rw [e_7, nI_clamp (by omega)]; exact (hL (lst Lt pp) (by omega)).1
          subst h9
          refine lv_bipush (v := 109) hx hb dX7_wrongAt_37 (by decide) ?_
          refine lv_icmp_ne (tgt := 45) hx hb dX7_wrongAt_39 (by decide) (fun c_8 => ?_) (fun c_8 => ?_)
          · have hl : lv_has ls 5 [(0, Value.ref xl), (1, Value.ref h1), (2, Value.int (nI (n + cm Lt (pp + 1)))), (3, Value.int (nI (lst Lt pp))), (4, Value.int (nI pp))] := by rw [← (show nI (n + cm Lt pp) = nI (n + cm Lt (pp + 1)) by rw [cm_no (fun z => c_8 (by rw [z.2]; rfl))])]; exact hl
            refine lv_aload_n hx hb dX7_wrongAt_45 rfl (lv_at hl 0 rfl) ?_
            refine lv_iload_n hx hb dX7_wrongAt_46 rfl (lv_at hl 3 rfl) ?_
            refine lv_iload_n hx hb dX7_wrongAt_47 rfl (lv_at hl 2 rfl) ?_
            refine lv_aload_n hx hb dX7_wrongAt_48 rfl (lv_at hl 1 rfl) ?_
            refine va_get (D := (dC, dI)) (ci := 4) (v := Value.int dn) (C := RX4) (T := TX4) (N := 8) hx hb hts inX4 hown hK hP 2 rfl rfl 7 (by decide) (hts _ (gw kw_54 rfl)) (fun _ h9 => h9) rfl dX7_wrongAt_49 ?_
            have hpd9 := pdf_N (cx := [oX7 xl (nI lz) lsg, cC aC lsg 64 sg]) hP hD hS hA [0, 1] (by decide) rfl
            have hPc := hpd9.1
            have hDc := hpd9.2.1
            have hFc := hpd9.2.2
            clear hpd9
            refine va_calli (va_runV (As := [Value.int (nI (lst Lt pp)), Value.int (nI (n + cm Lt (pp + 1))), Value.int dn]) (rest := []) ⟨hx, hb, hml, hown, hts⟩ (c_X7_isRight l dC dI aC H.size xl lsg lz Lt sg (lst Lt pp) pp (n + cm Lt (pp + 1)) dn tG (hlt0) (hst) (hlt) (by have := cm_le Lt (pp + 1); omega)) ⟨(callB_of 3 hts (gG kw_310) rfl rfl rfl (hts _ (gw kw_3 rfl)) (hts _ (gw kw_307 rfl)) hd_X7_isRight ⟨Nat.le_of_ble_eq_true rfl, Nat.le_of_ble_eq_true rfl⟩), (hts _ (gw kw_309 rfl)), (hts _ (gw ks_3 rfl))⟩ ⟨fun a U g mk q => by obtain ⟨q0, q1, qP, qK, qD, qN, z0, z1⟩ := q; exact ⟨q0, q1, qP, va_K.moved (u := U) (U := U.calling g mk a) (Vm.Alike.refl U.vm) qK, qD, NX.same (u := U) (U := U.calling g mk a) rfl qN, va_Z.moved (u := U) (U := U.calling g mk a) (Vm.Alike.refl U.vm) z0, va_T.moved (u := U) (U := U.calling g mk a) (Vm.Alike.refl U.vm) z1⟩, va_recv (q := (RX7, TX7, 2)) hK hPc (ci := 7) (q0 := 0) rfl rfl, fun U hU hW => ⟨rfl, by rw [hU], by rw [hU]; exact hPc, va_K.moved hW.alike hK, hDc.weaken (fun _ _ _ _ => trivial), NX.warm hW hN, by rw [hU]; exact va_Z.moved hW.alike (va_Z.narrow (va_Z.kept hZG hS.2.1) hFc), by rw [hU]; exact va_T.moved hW.alike (va_T.narrow (va_T.kept hTG hS.2.1) hFc)⟩⟩ rfl rfl hl.1 rfl (lv_room (Nat.le_of_ble_eq_true rfl)) dX7_wrongAt_52 ⟨Nat.le_of_ble_eq_true rfl, Nat.le_of_ble_eq_true rfl⟩) hS (fun q _ h => hFc q h) hFc (fun x_9 u9 t9 H1 locs ht hvm hw_9 hB hz1 hk1 hS => ?_)
            obtain ⟨hP1, hK1, hD1⟩ := hB
            rw [ht] at hP1
            clear hK1
            try dsimp only at hw_9
            have hpd9 : PDx (dC, dI) classes A H1 [oX4 h1 ek ef ew ep es (nI n) sy dn, oX7 xl (nI lz) lsg, cC aC lsg 64 sg] := jn_N (wr := [oX4 h1 ek ef ew ep es (nI n) sy dn]) hFc hk1 hP1 hD1 hP hD [0, 1] [2] rfl rfl (by decide) (by decide)
            have hP := hpd9.1
            have hD := hpd9.2
            clear hpd9
            generalize H1 = H at hP hS ⊢
            clear hPc hDc hFc hz1 hk1 hP1 hD1 ht hvm
            have hz_52 := hw_9
            refine lv_if_ne (tgt := 60) hx hb dX7_wrongAt_55 (by decide) (fun c_10 => ?_) (fun c_10 => ?_)
            · refine lv_iload hx hb dX7_wrongAt_60 (lv_at hl 4 rfl) ?_
              refine lv_iconst (v := 1) hx hb dX7_wrongAt_62 (by decide) ?_
              refine lv_iadd hx hb dX7_wrongAt_63 ?_
              refine lv_topi (fun x_11 e_11 => ?_)
              refine lv_istore_n (lv' := [(3, Value.int x_11), (0, Value.ref xl), (1, Value.ref h1), (2, Value.int (nI (n + cm Lt (pp + 1)))), (4, Value.int (nI pp))]) hx hb dX7_wrongAt_64 rfl hl (by decide) rfl (fun ls hl => ?_)
              have hf2 : fwr Lt n dn 0 lz = fwr Lt n dn (pp + 1) (lz - (pp + 1)) := by rw [hf, fwr_s hlt, if_neg (fun z => z.2 (hz_52.2 c_10))]
              have h9 : x_11 = nI (lst Lt (pp + 1)) := by rw [e_11, nI_1, lst_y hsem]
              subst h9
              obtain ⟨x_12, e_12⟩ : ∃ y : Int32, y = (nI pp) + 1 := ⟨_, rfl⟩
              refine lv_iinc (v := x_12) (lv' := [(4, Value.int x_12), (3, Value.int (nI (lst Lt (pp + 1)))), (0, Value.ref xl), (1, Value.ref h1), (2, Value.int (nI (n + cm Lt (pp + 1))))]) hx hb dX7_wrongAt_65 hl (k := 4) rfl (by rw [e_12]; rfl) (by decide) rfl (fun ls hl => ?_)
              have h9 : x_12 = nI (pp + 1) := by rw [e_12, nI_1]
              subst h9
              refine lv_goto (tgt := 10) hx hb dX7_wrongAt_68 (by decide) ?_
              exact ih_10 (pp + 1) (by omega) (by omega) (hf2) _ _ _ (hP.sub [1, 2, 0] rfl) (hD.sub [1, 2, 0] (by decide) rfl) hS (lv_sub hl [2, 3, 4, 1, 0] rfl)
            · refine lv_iload_n hx hb dX7_wrongAt_58 rfl (lv_at hl 3 rfl) ?_
              have hpd9 := pd_N (cx := [oX7 xl (nI lz) lsg, cC aC lsg 64 sg, oX4 h1 ek ef ew ep es (nI n) sy dn]) hP hD [1, 2, 0] (by decide) rfl
              have hP9 := hpd9.1
              have hD9 := hpd9.2
              refine W.widen (k := 0) (n := 0) (by omega) (by omega) ?_
              exact W.iret (v := nI (lst Lt pp)) hx hb hr (fun t ht hW => ⟨⟨(nI (lst Lt pp)), (), rfl, by rw [hf, fwr_s hlt, if_pos ⟨hsem, hz_52.1 c_10⟩], by rw [ht]; exact hP9, va_K.moved hW.alike hK, hD9⟩, hS.F ht⟩) hS.2.2 dX7_wrongAt_59
          · obtain ⟨x_13, e_13⟩ : ∃ y : Int32, y = (nI (n + cm Lt pp)) + 1 := ⟨_, rfl⟩
            refine lv_iinc (v := x_13) (lv' := [(2, Value.int x_13), (0, Value.ref xl), (1, Value.ref h1), (3, Value.int (nI (lst Lt pp))), (4, Value.int (nI pp))]) hx hb dX7_wrongAt_42 hl (k := 2) rfl (by rw [e_13]; rfl) (by decide) rfl (fun ls hl => ?_)
            have h9 : x_13 = nI (n + cm Lt (pp + 1)) := by rw [e_13, cm_y hsem ((nI_b0 (k := 109) (hL _ (by omega)).2 (by omega)).mp c_8), nI_1]; rfl
            subst h9
            refine lv_aload_n hx hb dX7_wrongAt_45 rfl (lv_at hl 1 rfl) ?_
            refine lv_iload_n hx hb dX7_wrongAt_46 rfl (lv_at hl 3 rfl) ?_
            refine lv_iload_n hx hb dX7_wrongAt_47 rfl (lv_at hl 0 rfl) ?_
            refine lv_aload_n hx hb dX7_wrongAt_48 rfl (lv_at hl 2 rfl) ?_
            refine va_get (D := (dC, dI)) (ci := 4) (v := Value.int dn) (C := RX4) (T := TX4) (N := 8) hx hb hts inX4 hown hK hP 2 rfl rfl 7 (by decide) (hts _ (gw kw_54 rfl)) (fun _ h9 => h9) rfl dX7_wrongAt_49 ?_
            have hpd9 := pdf_N (cx := [oX7 xl (nI lz) lsg, cC aC lsg 64 sg]) hP hD hS hA [0, 1] (by decide) rfl
            have hPc := hpd9.1
            have hDc := hpd9.2.1
            have hFc := hpd9.2.2
            clear hpd9
            refine va_calli (va_runV (As := [Value.int (nI (lst Lt pp)), Value.int (nI (n + cm Lt (pp + 1))), Value.int dn]) (rest := []) ⟨hx, hb, hml, hown, hts⟩ (c_X7_isRight l dC dI aC H.size xl lsg lz Lt sg (lst Lt pp) pp (n + cm Lt (pp + 1)) dn tG (hlt0) (hst) (hlt) (by have := cm_le Lt (pp + 1); omega)) ⟨(callB_of 3 hts (gG kw_310) rfl rfl rfl (hts _ (gw kw_3 rfl)) (hts _ (gw kw_307 rfl)) hd_X7_isRight ⟨Nat.le_of_ble_eq_true rfl, Nat.le_of_ble_eq_true rfl⟩), (hts _ (gw kw_309 rfl)), (hts _ (gw ks_3 rfl))⟩ ⟨fun a U g mk q => by obtain ⟨q0, q1, qP, qK, qD, qN, z0, z1⟩ := q; exact ⟨q0, q1, qP, va_K.moved (u := U) (U := U.calling g mk a) (Vm.Alike.refl U.vm) qK, qD, NX.same (u := U) (U := U.calling g mk a) rfl qN, va_Z.moved (u := U) (U := U.calling g mk a) (Vm.Alike.refl U.vm) z0, va_T.moved (u := U) (U := U.calling g mk a) (Vm.Alike.refl U.vm) z1⟩, va_recv (q := (RX7, TX7, 2)) hK hPc (ci := 7) (q0 := 0) rfl rfl, fun U hU hW => ⟨rfl, by rw [hU], by rw [hU]; exact hPc, va_K.moved hW.alike hK, hDc.weaken (fun _ _ _ _ => trivial), NX.warm hW hN, by rw [hU]; exact va_Z.moved hW.alike (va_Z.narrow (va_Z.kept hZG hS.2.1) hFc), by rw [hU]; exact va_T.moved hW.alike (va_T.narrow (va_T.kept hTG hS.2.1) hFc)⟩⟩ rfl rfl hl.1 rfl (lv_room (Nat.le_of_ble_eq_true rfl)) dX7_wrongAt_52 ⟨Nat.le_of_ble_eq_true rfl, Nat.le_of_ble_eq_true rfl⟩) hS (fun q _ h => hFc q h) hFc (fun x_14 u9 t9 H1 locs ht hvm hw_14 hB hz1 hk1 hS => ?_)
            obtain ⟨hP1, hK1, hD1⟩ := hB
            rw [ht] at hP1
            clear hK1
            try dsimp only at hw_14
            have hpd9 : PDx (dC, dI) classes A H1 [oX4 h1 ek ef ew ep es (nI n) sy dn, oX7 xl (nI lz) lsg, cC aC lsg 64 sg] := jn_N (wr := [oX4 h1 ek ef ew ep es (nI n) sy dn]) hFc hk1 hP1 hD1 hP hD [0, 1] [2] rfl rfl (by decide) (by decide)
            have hP := hpd9.1
            have hD := hpd9.2
            clear hpd9
            generalize H1 = H at hP hS ⊢
            clear hPc hDc hFc hz1 hk1 hP1 hD1 ht hvm
            have hz_52 := hw_14
            refine lv_if_ne (tgt := 60) hx hb dX7_wrongAt_55 (by decide) (fun c_15 => ?_) (fun c_15 => ?_)
            · refine lv_iload hx hb dX7_wrongAt_60 (lv_at hl 4 rfl) ?_
              refine lv_iconst (v := 1) hx hb dX7_wrongAt_62 (by decide) ?_
              refine lv_iadd hx hb dX7_wrongAt_63 ?_
              refine lv_topi (fun x_16 e_16 => ?_)
              refine lv_istore_n (lv' := [(3, Value.int x_16), (2, Value.int (nI (n + cm Lt (pp + 1)))), (0, Value.ref xl), (1, Value.ref h1), (4, Value.int (nI pp))]) hx hb dX7_wrongAt_64 rfl hl (by decide) rfl (fun ls hl => ?_)
              have hf2 : fwr Lt n dn 0 lz = fwr Lt n dn (pp + 1) (lz - (pp + 1)) := by rw [hf, fwr_s hlt, if_neg (fun z => z.2 (hz_52.2 c_15))]
              have h9 : x_16 = nI (lst Lt (pp + 1)) := by rw [e_16, nI_1, lst_y hsem]
              subst h9
              obtain ⟨x_17, e_17⟩ : ∃ y : Int32, y = (nI pp) + 1 := ⟨_, rfl⟩
              refine lv_iinc (v := x_17) (lv' := [(4, Value.int x_17), (3, Value.int (nI (lst Lt (pp + 1)))), (2, Value.int (nI (n + cm Lt (pp + 1)))), (0, Value.ref xl), (1, Value.ref h1)]) hx hb dX7_wrongAt_65 hl (k := 4) rfl (by rw [e_17]; rfl) (by decide) rfl (fun ls hl => ?_)
              have h9 : x_17 = nI (pp + 1) := by rw [e_17, nI_1]
              subst h9
              refine lv_goto (tgt := 10) hx hb dX7_wrongAt_68 (by decide) ?_
              exact ih_10 (pp + 1) (by omega) (by omega) (hf2) _ _ _ (hP.sub [1, 2, 0] rfl) (hD.sub [1, 2, 0] (by decide) rfl) hS (lv_sub hl [3, 4, 2, 1, 0] rfl)
            · refine lv_iload_n hx hb dX7_wrongAt_58 rfl (lv_at hl 3 rfl) ?_
              have hpd9 := pd_N (cx := [oX7 xl (nI lz) lsg, cC aC lsg 64 sg, oX4 h1 ek ef ew ep es (nI n) sy dn]) hP hD [1, 2, 0] (by decide) rfl
              have hP9 := hpd9.1
              have hD9 := hpd9.2
              refine W.widen (k := 0) (n := 0) (by omega) (by omega) ?_
              exact W.iret (v := nI (lst Lt pp)) hx hb hr (fun t ht hW => ⟨⟨(nI (lst Lt pp)), (), rfl, by rw [hf, fwr_s hlt, if_pos ⟨hsem, hz_52.1 c_15⟩], by rw [ht]; exact hP9, va_K.moved hW.alike hK, hD9⟩, hS.F ht⟩) hS.2.2 dX7_wrongAt_59
  exact lp_10 ((lz - 0) + 1) 0 (Nat.lt_succ_self _) (by omega) (rfl) _ _ _ (hP.sub [0, 1, 2] rfl) (hD.sub [0, 1, 2] (by decide) rfl) hS (lv_sub hl [3, 4, 2, 1, 0] rfl)

set_option maxHeartbeats 1000000 in
set_option maxRecDepth 100000 in
/-- X7_fault -/
theorem c_X7_fault (l : Launch) (dC : Nat → ClassId) (dI : Nat → Nat → Nat) (aC : Nat → ClassId) (sz : Nat) (xl : Nat) (lsg : Nat) (lz : Nat) (Lt : Nat → Nat) (sg : Nat → Int32) (h1 : Nat) (ek : Nat) (ef : Nat) (ew : Nat) (ep : Nat) (es : Nat) (n : Nat) (sy : Int32) (dn : Int32) (tG : Nat) (hlt0 : LTR lz Lt sg) (hn : n ≤ 8) : Met l yX7_fault (wW yX7_fault cX7_fault 4 (some .int)) ({ frames := 3, cells := 0, slots := 0, locals := 71 } : Room) (va_Pc [Value.ref xl, Value.ref h1] (fun U => U.heap.size = sz ∧ va_P (dC, dI) classes [oX7 xl (nI lz) lsg, cC aC lsg 64 sg, oX4 h1 ek ef ew ep es (nI n) sy dn] U.heap ∧ va_K (dC, dI) classes (TY aC) U ∧ va_D (fun _ => True) [oX7 xl (nI lz) lsg, cC aC lsg 64 sg, oX4 h1 ek ef ew ep es (nI n) sy dn] ∧ NX U ∧ va_Z "EldestSays" "GREATEST" "[I" (.ref tG) (va_A [oX7 xl (nI lz) lsg, cC aC lsg 64 sg, oX4 h1 ek ef ew ep es (nI n) sy dn] sz) U U.heap ∧ va_T .int tG 5 (fun j => .int (GV j)) (va_A [oX7 xl (nI lz) lsg, cC aC lsg 64 sg, oX4 h1 ek ef ew ep es (nI n) sy dn] sz) U U.heap)) (va_Qi (fun (r : Int32) (_ : Unit) => r = flR Lt lz n dn) (fun (_ : Unit) (t : State) => va_P (dC, dI) classes [oX7 xl (nI lz) lsg, cC aC lsg 64 sg, oX4 h1 ek ef ew ep es (nI n) sy dn] t.heap ∧ va_K (dC, dI) classes (TY aC) t ∧ va_D (va_A [oX7 xl (nI lz) lsg, cC aC lsg 64 sg, oX4 h1 ek ef ew ep es (nI n) sy dn] sz) [oX7 xl (nI lz) lsg, cC aC lsg 64 sg, oX4 h1 ek ef ew ep es (nI n) sy dn]) (va_A [oX7 xl (nI lz) lsg, cC aC lsg 64 sg, oX4 h1 ek ef ew ep es (nI n) sy dn] sz)) 0 0 (va_A [oX7 xl (nI lz) lsg, cC aC lsg 64 sg, oX4 h1 ek ef ew ep es (nI n) sy dn] sz) := by
  refine Met.ofW (cc := cX7_fault) (maxL := 4) (ret := (some .int)) (by decide) rfl ?_
  intro p e s m args below meth c s₁ B hml hv
  obtain ⟨rfl, hsz, hP, hK, hD0, hN, hZG, hTG⟩ := hv
  have hx := B.exec
  have hb := B.bytes
  have hr := B.returns
  have hts0 := atoms_spec (ws := (wW yX7_fault cX7_fault 4 (some .int))) B.pre
  have hts : ∀ w9 ∈ lw_G, w9.before ([Value.ref xl, Value.ref h1] : List Value).toArray s = true := fun w9 h9 => hts0 w9 (List.mem_cons_of_mem _ h9)
  have hown : s.vm.findClass RX7 = some m.cls := findClass_of_methodNamed (x := yX7_fault) B.named
  have hlocks := B.notSynchronized
  subst hsz
  have hD := hD0.self (sz := s.heap.size)
  generalize hAe : va_A [oX7 xl (nI lz) lsg, cC aC lsg 64 sg, oX4 h1 ek ef ew ep es (nI n) sy dn] s.heap.size = A at hZG hTG hD ⊢
  have hA : ∀ q : Nat, s.heap.size ≤ q → A q := fun q h => by rw [← hAe]; exact Or.inr h
  obtain ⟨H, hHe⟩ : ∃ H : Heap, H = s.heap := ⟨_, rfl⟩
  have hS : va_S A s.heap H [] := by rw [hHe]; exact va_S.rf
  have hP : va_P (dC, dI) classes [oX7 xl (nI lz) lsg, cC aC lsg 64 sg, oX4 h1 ek ef ew ep es (nI n) sy dn] H := by rw [hHe]; exact hP
  have hl := lv_entry ([Value.ref xl, Value.ref h1]) (n := 4) (Nat.le_of_ble_eq_true rfl)
  rw [lg_entry_eq]
  generalize (lg_sl ([Value.ref xl, Value.ref h1]) ++ List.replicate (4 - (lg_sl ([Value.ref xl, Value.ref h1])).length) Slot.unset).toArray = ls at hl ⊢
  have hl : lv_has ls 4 [(0, Value.ref xl), (1, Value.ref h1)] := hl
  rw [← hHe]
  have hz6 := hlt0.1
  have hL := hlt0.2
  refine lv_aload_n hx hb dX7_fault_0 rfl (lv_at hl 0 rfl) ?_
  have hpd9 := pdf_N (cx := [oX7 xl (nI lz) lsg, cC aC lsg 64 sg]) hP hD hS hA [0, 1] (by decide) rfl
  have hPc := hpd9.1
  have hDc := hpd9.2.1
  have hFc := hpd9.2.2
  clear hpd9
  refine va_calli (va_runV (As := []) (rest := []) ⟨hx, hb, hml, hown, hts⟩ (c_X7_brokenAt l dC dI aC H.size xl lsg lz Lt sg (hlt0)) ⟨(callB_of 0 hts (gG kw_296) rfl rfl rfl (hts _ (gw kw_3 rfl)) (hts _ (gw kw_293 rfl)) hd_X7_brokenAt ⟨Nat.le_of_ble_eq_true rfl, Nat.le_of_ble_eq_true rfl⟩), (hts _ (gw kw_295 rfl)), (hts _ (gw ks_1 rfl))⟩ ⟨fb_std, va_recv (q := (RX7, TX7, 2)) hK hPc (ci := 7) (q0 := 0) rfl rfl, pre_std hPc hK hDc hN⟩ rfl rfl hl.1 rfl (lv_room (Nat.le_of_ble_eq_true rfl)) dX7_fault_1 ⟨Nat.le_of_ble_eq_true rfl, Nat.le_of_ble_eq_true rfl⟩) hS (fun q _ h => hFc q h) hFc (fun x_1 u9 t9 H1 locs ht hvm hw_1 hB hz1 hk1 hS => ?_)
  obtain ⟨hP1, hK1, hD1⟩ := hB
  rw [ht] at hP1
  clear hK1
  try dsimp only at hw_1
  have hpd9 : PDx (dC, dI) classes A H1 [oX4 h1 ek ef ew ep es (nI n) sy dn, oX7 xl (nI lz) lsg, cC aC lsg 64 sg] := jn_N (wr := [oX4 h1 ek ef ew ep es (nI n) sy dn]) hFc hk1 hP1 hD1 hP hD [0, 1] [2] rfl rfl (by decide) (by decide)
  have hP := hpd9.1
  have hD := hpd9.2
  clear hpd9
  generalize H1 = H at hP hS ⊢
  clear hPc hDc hFc hz1 hk1 hP1 hD1 ht hvm
  have hz_1 := hw_1
  refine lv_istore_n (lv' := [(2, Value.int x_1), (0, Value.ref xl), (1, Value.ref h1)]) hx hb dX7_fault_4 rfl hl (by decide) rfl (fun ls hl => ?_)
  refine lv_iload_n hx hb dX7_fault_5 rfl (lv_at hl 0 rfl) ?_
  refine lv_if_lt (tgt := 15) hx hb dX7_fault_6 (by decide) (fun c_2 => ?_) (fun c_2 => ?_)
  · have hb9 : lrn Lt lz = 0 ∧ 0 < lz := Classical.byContradiction fun q => absurd c_2 (by rw [hz_1]; unfold brR; rw [if_neg q]; exact nI_n9' (by have := fps_b Lt lz 0; omega))
    refine lv_aload_n hx hb dX7_fault_15 rfl (lv_at hl 1 rfl) ?_
    refine lv_aload_n hx hb dX7_fault_16 rfl (lv_at hl 2 rfl) ?_
    have hpd9 := pdf_N (cx := [oX7 xl (nI lz) lsg, cC aC lsg 64 sg, oX4 h1 ek ef ew ep es (nI n) sy dn]) hP hD hS hA [1, 2, 0] (by decide) rfl
    have hPc := hpd9.1
    have hDc := hpd9.2.1
    have hFc := hpd9.2.2
    clear hpd9
    refine va_calli (va_runV (As := [Value.ref h1]) (rest := []) ⟨hx, hb, hml, hown, hts⟩ (c_X7_wrongAt l dC dI aC H.size xl lsg lz Lt sg h1 ek ef ew ep es n sy dn tG (hlt0) (by rw [hb9.1]; decide) (hn)) ⟨(callB_of 1 hts (gG kw_306) rfl rfl rfl (hts _ (gw kw_3 rfl)) (hts _ (gw kw_303 rfl)) hd_X7_wrongAt ⟨Nat.le_of_ble_eq_true rfl, Nat.le_of_ble_eq_true rfl⟩), (hts _ (gw kw_305 rfl)), (hts _ (gw ks_2 rfl))⟩ ⟨fun a U g mk q => by obtain ⟨q0, q1, qP, qK, qD, qN, z0, z1⟩ := q; exact ⟨q0, q1, qP, va_K.moved (u := U) (U := U.calling g mk a) (Vm.Alike.refl U.vm) qK, qD, NX.same (u := U) (U := U.calling g mk a) rfl qN, va_Z.moved (u := U) (U := U.calling g mk a) (Vm.Alike.refl U.vm) z0, va_T.moved (u := U) (U := U.calling g mk a) (Vm.Alike.refl U.vm) z1⟩, va_recv (q := (RX7, TX7, 2)) hK hPc (ci := 7) (q0 := 0) rfl rfl, fun U hU hW => ⟨rfl, by rw [hU], by rw [hU]; exact hPc, va_K.moved hW.alike hK, hDc.weaken (fun _ _ _ _ => trivial), NX.warm hW hN, by rw [hU]; exact va_Z.moved hW.alike (va_Z.narrow (va_Z.kept hZG hS.2.1) hFc), by rw [hU]; exact va_T.moved hW.alike (va_T.narrow (va_T.kept hTG hS.2.1) hFc)⟩⟩ rfl rfl hl.1 rfl (lv_room (Nat.le_of_ble_eq_true rfl)) dX7_fault_17 ⟨Nat.le_of_ble_eq_true rfl, Nat.le_of_ble_eq_true rfl⟩) hS (fun q _ h => hFc q h) hFc (fun x_3 u9 t9 H1 locs ht hvm hw_3 hB hz1 hk1 hS => ?_)
    obtain ⟨hP1, hK1, hD1⟩ := hB
    rw [ht] at hP1
    clear hK1
    try dsimp only at hw_3
    have hpd9 : PDx (dC, dI) classes A H1 [oX7 xl (nI lz) lsg, cC aC lsg 64 sg, oX4 h1 ek ef ew ep es (nI n) sy dn] := jn_N (wr := []) hFc hk1 hP1 hD1 hP hD [1, 2, 0] [] rfl rfl (by decide) (by decide)
    have hP := hpd9.1
    have hD := hpd9.2
    clear hpd9
    generalize H1 = H at hP hS ⊢
    clear hPc hDc hFc hz1 hk1 hP1 hD1 ht hvm
    have hz_17 := hw_3
    refine lv_istore_n (lv' := [(3, Value.int x_3), (2, Value.int x_1), (0, Value.ref xl), (1, Value.ref h1)]) hx hb dX7_fault_20 rfl hl (by decide) rfl (fun ls hl => ?_)
    refine lv_iload_n hx hb dX7_fault_21 rfl (lv_at hl 0 rfl) ?_
    refine lv_if_lt (tgt := 33) hx hb dX7_fault_22 (by decide) (fun c_4 => ?_) (fun c_4 => ?_)
    · refine lv_iconst (v := 0) hx hb dX7_fault_33 (by decide) ?_
      have hpd9 := pd_N (cx := [oX7 xl (nI lz) lsg, cC aC lsg 64 sg, oX4 h1 ek ef ew ep es (nI n) sy dn]) hP hD [0, 1, 2] (by decide) rfl
      have hP9 := hpd9.1
      have hD9 := hpd9.2
      refine W.widen (k := 0) (n := 0) (by omega) (by omega) ?_
      exact W.iret (v := 0) hx hb hr (fun t ht hW => ⟨⟨0, (), rfl, by unfold flR; rw [if_pos hb9, if_pos (hz_17.symm.trans (by rcases fwr_b (L := Lt) (n := n) (dn := dn) lz 0 (by omega) with q | ⟨j, j1, j2⟩ <;> first | exact hz_17.trans q | exact absurd (by rw [← j2, ← hz_17]; exact c_4) (nI_n9' (k := j) (by omega))))], by rw [ht]; exact hP9, va_K.moved hW.alike hK, hD9⟩, hS.F ht⟩) hS.2.2 dX7_fault_34
    · refine lv_sipush (v := -2000) hx hb dX7_fault_25 (by decide) ?_
      refine lv_iload_n hx hb dX7_fault_28 rfl (lv_at hl 0 rfl) ?_
      refine lv_isub hx hb dX7_fault_29 ?_
      refine lv_topi (fun x_5 e_5 => ?_)
      refine lv_goto (tgt := 34) hx hb dX7_fault_30 (by decide) ?_
      have hpd9 := pd_N (cx := [oX7 xl (nI lz) lsg, cC aC lsg 64 sg, oX4 h1 ek ef ew ep es (nI n) sy dn]) hP hD [0, 1, 2] (by decide) rfl
      have hP9 := hpd9.1
      have hD9 := hpd9.2
      refine W.widen (k := 0) (n := 0) (by omega) (by omega) ?_
      exact W.iret (v := x_5) hx hb hr (fun t ht hW => ⟨⟨x_5, (), rfl, by rw [e_5]; unfold flR; rw [if_pos hb9, if_neg (fun q => c_4 (by rw [hz_17, q]; decide)), hz_17], by rw [ht]; exact hP9, va_K.moved hW.alike hK, hD9⟩, hS.F ht⟩) hS.2.2 dX7_fault_34
  · have hnb9 : ¬ (lrn Lt lz = 0 ∧ 0 < lz) := fun q => c_2 (by rw [hz_1]; unfold brR; rw [if_pos q]; decide)
    refine lv_sipush (v := -1000) hx hb dX7_fault_9 (by decide) ?_
    refine lv_iload_n hx hb dX7_fault_12 rfl (lv_at hl 0 rfl) ?_
    refine lv_isub hx hb dX7_fault_13 ?_
    refine lv_topi (fun x_6 e_6 => ?_)
    have hpd9 := pd_N (cx := [oX7 xl (nI lz) lsg, cC aC lsg 64 sg, oX4 h1 ek ef ew ep es (nI n) sy dn]) hP hD [1, 2, 0] (by decide) rfl
    have hP9 := hpd9.1
    have hD9 := hpd9.2
    refine W.widen (k := 0) (n := 0) (by omega) (by omega) ?_
    exact W.iret (v := x_6) hx hb hr (fun t ht hW => ⟨⟨x_6, (), rfl, by rw [e_6, hz_1]; unfold flR; rw [if_neg hnb9]; unfold brR; rw [if_neg hnb9], by rw [ht]; exact hP9, va_K.moved hW.alike hK, hD9⟩, hS.F ht⟩) hS.2.2 dX7_fault_14

end

section
/-! 83.lett5 -/
theorem ch_n {q : Nat} (h : q < 65536) : ((nI q).toUInt32 % 65536).toInt32 = nI q := Value.int.inj (pk_charN h).1

set_option maxHeartbeats 1000000 in
set_option maxRecDepth 100000 in
/-- X7_tellOne -/
theorem c_X7_tellOne (l : Launch) (dC : Nat → ClassId) (dI : Nat → Nat → Nat) (aC : Nat → ClassId) (sz : Nat) (xl : Nat) (lsg : Nat) (lz : Nat) (Lt : Nat → Nat) (sg : Nat → Int32) (h1 : Nat) (ek : Nat) (ef : Nat) (ew : Nat) (ep : Nat) (es : Nat) (n : Nat) (sn : Nat) (dn : Int32) (K : Nat → Nat) (F : Nat → Nat) (W0 : Nat → Nat) (S5 : Nat → Nat) (kf : Nat → Int32) (ff : Nat → Int32) (wf : Nat → Int32) (stf : Nat → Int32) (ee : Nat) (hlt0 : LTR lz Lt sg) (hst : STM Lt (lst Lt ee) ee) (hee : ee < lz) (hsem : Lt ee = 59) (hrg : RGS Lt n dn ee) (hev : EVT Lt ee n sn dn K F W0 S5 kf ff wf stf) : Met l yX7_tellOne (wW yX7_tellOne cX7_tellOne 7 (none : Option FieldType)) ({ frames := 1, cells := 0, slots := 0, locals := 23 } : Room) (va_Pc [Value.ref xl, Value.ref h1, Value.int (nI (lst Lt ee)), Value.int (nI ee)] (fun U => U.heap.size = sz ∧ va_P (dC, dI) classes [oX7 xl (nI lz) lsg, cC aC lsg 64 sg, oX4 h1 ek ef ew ep es (nI (n + cm Lt ee)) (nI sn) dn, cI aC ek 8 kf, cI aC ef 8 ff, cI aC ew 8 wf, cI aC es 5 stf] U.heap ∧ va_K (dC, dI) classes (TY aC) U ∧ va_D (fun _ => True) [oX7 xl (nI lz) lsg, cC aC lsg 64 sg, oX4 h1 ek ef ew ep es (nI (n + cm Lt ee)) (nI sn) dn, cI aC ek 8 kf, cI aC ef 8 ff, cI aC ew 8 wf, cI aC es 5 stf] ∧ NX U)) (va_Qv (fun (u : (Nat → Int32) × (Nat → Int32) × (Nat → Int32) × (Nat → Int32)) => match u with | (kf2, ff2, wf2, stf2) => EVT Lt (ee + 1) n sn dn K F W0 S5 kf2 ff2 wf2 stf2) (fun (u : (Nat → Int32) × (Nat → Int32) × (Nat → Int32) × (Nat → Int32)) (t : State) => match u with | (kf2, ff2, wf2, stf2) => va_P (dC, dI) classes [oX7 xl (nI lz) lsg, cC aC lsg 64 sg, oX4 h1 ek ef ew ep es (nI (n + cm Lt (ee + 1))) (nI sn) dn, cI aC ek 8 kf2, cI aC ef 8 ff2, cI aC ew 8 wf2, cI aC es 5 stf2] t.heap ∧ va_K (dC, dI) classes (TY aC) t ∧ va_D (va_A [oX7 xl (nI lz) lsg, cC aC lsg 64 sg, oX4 h1 ek ef ew ep es (nI (n + cm Lt ee)) (nI sn) dn, cI aC ek 8 kf, cI aC ef 8 ff, cI aC ew 8 wf, cI aC es 5 stf] sz) [oX7 xl (nI lz) lsg, cC aC lsg 64 sg, oX4 h1 ek ef ew ep es (nI (n + cm Lt (ee + 1))) (nI sn) dn, cI aC ek 8 kf2, cI aC ef 8 ff2, cI aC ew 8 wf2, cI aC es 5 stf2]) (va_A [oX7 xl (nI lz) lsg, cC aC lsg 64 sg, oX4 h1 ek ef ew ep es (nI (n + cm Lt ee)) (nI sn) dn, cI aC ek 8 kf, cI aC ef 8 ff, cI aC ew 8 wf, cI aC es 5 stf] sz)) 0 0 (va_A [oX7 xl (nI lz) lsg, cC aC lsg 64 sg, oX4 h1 ek ef ew ep es (nI (n + cm Lt ee)) (nI sn) dn, cI aC ek 8 kf, cI aC ef 8 ff, cI aC ew 8 wf, cI aC es 5 stf] sz) := by
  refine Met.ofW (cc := cX7_tellOne) (maxL := 7) (ret := (none : Option FieldType)) (by decide) rfl ?_
  intro p e s m args below meth c s₁ B hml hv
  obtain ⟨rfl, hsz, hP, hK, hD0, hN⟩ := hv
  have hx := B.exec
  have hb := B.bytes
  have hr := B.returns
  have hts0 := atoms_spec (ws := (wW yX7_tellOne cX7_tellOne 7 (none : Option FieldType))) B.pre
  have hts : ∀ w9 ∈ lw_G, w9.before ([Value.ref xl, Value.ref h1, Value.int (nI (lst Lt ee)), Value.int (nI ee)] : List Value).toArray s = true := fun w9 h9 => hts0 w9 (List.mem_cons_of_mem _ h9)
  have hown : s.vm.findClass RX7 = some m.cls := findClass_of_methodNamed (x := yX7_tellOne) B.named
  have hlocks := B.notSynchronized
  subst hsz
  have hD := hD0.self (sz := s.heap.size)
  generalize hAe : va_A [oX7 xl (nI lz) lsg, cC aC lsg 64 sg, oX4 h1 ek ef ew ep es (nI (n + cm Lt ee)) (nI sn) dn, cI aC ek 8 kf, cI aC ef 8 ff, cI aC ew 8 wf, cI aC es 5 stf] s.heap.size = A at hD ⊢
  have hA : ∀ q : Nat, s.heap.size ≤ q → A q := fun q h => by rw [← hAe]; exact Or.inr h
  obtain ⟨H, hHe⟩ : ∃ H : Heap, H = s.heap := ⟨_, rfl⟩
  have hS : va_S A s.heap H [] := by rw [hHe]; exact va_S.rf
  have hP : va_P (dC, dI) classes [oX7 xl (nI lz) lsg, cC aC lsg 64 sg, oX4 h1 ek ef ew ep es (nI (n + cm Lt ee)) (nI sn) dn, cI aC ek 8 kf, cI aC ef 8 ff, cI aC ew 8 wf, cI aC es 5 stf] H := by rw [hHe]; exact hP
  have hl := lv_entry ([Value.ref xl, Value.ref h1, Value.int (nI (lst Lt ee)), Value.int (nI ee)]) (n := 7) (Nat.le_of_ble_eq_true rfl)
  rw [lg_entry_eq]
  generalize (lg_sl ([Value.ref xl, Value.ref h1, Value.int (nI (lst Lt ee)), Value.int (nI ee)]) ++ List.replicate (7 - (lg_sl ([Value.ref xl, Value.ref h1, Value.int (nI (lst Lt ee)), Value.int (nI ee)])).length) Slot.unset).toArray = ls at hl ⊢
  have hl : lv_has ls 7 [(0, Value.ref xl), (1, Value.ref h1), (2, Value.int (nI (lst Lt ee))), (3, Value.int (nI ee))] := hl
  rw [← hHe]
  have hz6 := hlt0.1
  have hL := hlt0.2
  have hse := (STM_k hst).2
  refine lv_aload_n hx hb dX7_tellOne_0 rfl (lv_at hl 0 rfl) ?_
  refine lv_iload_n hx hb dX7_tellOne_1 rfl (lv_at hl 2 rfl) ?_
  refine lv_iconst (v := 1) hx hb dX7_tellOne_2 (by decide) ?_
  refine lv_iadd hx hb dX7_tellOne_3 ?_
  refine lv_topi (fun x_1 e_1 => ?_)
  have h9 : x_1 = nI (lst Lt ee + 1) := by rw [e_1, nI_1]
  subst h9
  have hpd9 := pdf_N (cx := [oX7 xl (nI lz) lsg, cC aC lsg 64 sg]) hP hD hS hA [0, 1] (by decide) rfl
  have hPc := hpd9.1
  have hDc := hpd9.2.1
  have hFc := hpd9.2.2
  clear hpd9
  refine va_calli (va_runV (As := [Value.int (nI (lst Lt ee + 1))]) (rest := []) ⟨hx, hb, hml, hown, hts⟩ (c_X7_digit l dC dI aC H.size xl lsg lz Lt sg (lst Lt ee + 1) (hlt0) (by omega)) ⟨(callB_of 1 hts (gG kw_314) rfl rfl rfl (hts _ (gw kw_3 rfl)) (hts _ (gw kw_311 rfl)) hd_X7_digit ⟨Nat.le_of_ble_eq_true rfl, Nat.le_of_ble_eq_true rfl⟩), (hts _ (gw kw_313 rfl)), (hts _ (gw ks_4 rfl))⟩ ⟨fb_std, va_recv (q := (RX7, TX7, 2)) hK hPc (ci := 7) (q0 := 0) rfl rfl, pre_std hPc hK hDc hN⟩ rfl rfl hl.1 rfl (lv_room (Nat.le_of_ble_eq_true rfl)) dX7_tellOne_4 ⟨Nat.le_of_ble_eq_true rfl, Nat.le_of_ble_eq_true rfl⟩) hS (fun q _ h => hFc q h) hFc (fun x_2 u9 t9 H1 locs ht hvm hw_2 hB hz1 hk1 hS => ?_)
  obtain ⟨hP1, hK1, hD1⟩ := hB
  rw [ht] at hP1
  clear hK1
  try dsimp only at hw_2
  have hpd9 : PDx (dC, dI) classes A H1 [oX4 h1 ek ef ew ep es (nI (n + cm Lt ee)) (nI sn) dn, cI aC ek 8 kf, cI aC ef 8 ff, cI aC ew 8 wf, cI aC es 5 stf, oX7 xl (nI lz) lsg, cC aC lsg 64 sg] := jn_N (wr := [oX4 h1 ek ef ew ep es (nI (n + cm Lt ee)) (nI sn) dn, cI aC ek 8 kf, cI aC ef 8 ff, cI aC ew 8 wf, cI aC es 5 stf]) hFc hk1 hP1 hD1 hP hD [0, 1] [2, 3, 4, 5, 6] rfl rfl (by decide) (by decide)
  have hP := hpd9.1
  have hD := hpd9.2
  clear hpd9
  generalize H1 = H at hP hS ⊢
  clear hPc hDc hFc hz1 hk1 hP1 hD1 ht hvm
  have hz_4 := hw_2
  refine lv_istore (lv' := [(4, Value.int x_2), (0, Value.ref xl), (1, Value.ref h1), (2, Value.int (nI (lst Lt ee))), (3, Value.int (nI ee))]) hx hb dX7_tellOne_7 hl (by decide) rfl (fun ls hl => ?_)
  refine lv_aload_n hx hb dX7_tellOne_9 rfl (lv_at hl 1 rfl) ?_
  refine lv_iload_n hx hb dX7_tellOne_10 rfl (lv_at hl 3 rfl) ?_
  refine lv_iconst (v := 2) hx hb dX7_tellOne_11 (by decide) ?_
  refine lv_iadd hx hb dX7_tellOne_12 ?_
  refine lv_topi (fun x_3 e_3 => ?_)
  have h9 : x_3 = nI (lst Lt ee + 2) := by rw [e_3]; exact nI_add (lst Lt ee) 2
  subst h9
  have hpd9 := pdf_N (cx := [oX7 xl (nI lz) lsg, cC aC lsg 64 sg]) hP hD hS hA [5, 6] (by decide) rfl
  have hPc := hpd9.1
  have hDc := hpd9.2.1
  have hFc := hpd9.2.2
  clear hpd9
  refine va_calli (va_runV (As := [Value.int (nI (lst Lt ee + 2))]) (rest := []) ⟨hx, hb, hml, hown, hts⟩ (c_X7_digit l dC dI aC H.size xl lsg lz Lt sg (lst Lt ee + 2) (hlt0) (by omega)) ⟨(callB_of 1 hts (gG kw_314) rfl rfl rfl (hts _ (gw kw_3 rfl)) (hts _ (gw kw_311 rfl)) hd_X7_digit ⟨Nat.le_of_ble_eq_true rfl, Nat.le_of_ble_eq_true rfl⟩), (hts _ (gw kw_313 rfl)), (hts _ (gw ks_4 rfl))⟩ ⟨fb_std, va_recv (q := (RX7, TX7, 2)) hK hPc (ci := 7) (q0 := 0) rfl rfl, pre_std hPc hK hDc hN⟩ rfl rfl hl.1 rfl (lv_room (Nat.le_of_ble_eq_true rfl)) dX7_tellOne_13 ⟨Nat.le_of_ble_eq_true rfl, Nat.le_of_ble_eq_true rfl⟩) hS (fun q _ h => hFc q h) hFc (fun x_4 u9 t9 H1 locs ht hvm hw_4 hB hz1 hk1 hS => ?_)
  obtain ⟨hP1, hK1, hD1⟩ := hB
  rw [ht] at hP1
  clear hK1
  try dsimp only at hw_4
  have hpd9 : PDx (dC, dI) classes A H1 [oX4 h1 ek ef ew ep es (nI (n + cm Lt ee)) (nI sn) dn, cI aC ek 8 kf, cI aC ef 8 ff, cI aC ew 8 wf, cI aC es 5 stf, oX7 xl (nI lz) lsg, cC aC lsg 64 sg] := jn_N (wr := [oX4 h1 ek ef ew ep es (nI (n + cm Lt ee)) (nI sn) dn, cI aC ek 8 kf, cI aC ef 8 ff, cI aC ew 8 wf, cI aC es 5 stf]) hFc hk1 hP1 hD1 hP hD [5, 6] [0, 1, 2, 3, 4] rfl rfl (by decide) (by decide)
  have hP := hpd9.1
  have hD := hpd9.2
  clear hpd9
  generalize H1 = H at hP hS ⊢
  clear hPc hDc hFc hz1 hk1 hP1 hD1 ht hvm
  have hz_13 := hw_4
  refine lv_istore (lv' := [(5, Value.int x_4), (4, Value.int x_2), (0, Value.ref xl), (1, Value.ref h1), (2, Value.int (nI (lst Lt ee))), (3, Value.int (nI ee))]) hx hb dX7_tellOne_16 hl (by decide) rfl (fun ls hl => ?_)
  refine lv_aload_n hx hb dX7_tellOne_18 rfl (lv_at hl 2 rfl) ?_
  refine lv_iload_n hx hb dX7_tellOne_19 rfl (lv_at hl 4 rfl) ?_
  refine lv_iconst (v := 3) hx hb dX7_tellOne_20 (by decide) ?_
  refine lv_iadd hx hb dX7_tellOne_21 ?_
  refine lv_topi (fun x_5 e_5 => ?_)
  have h9 : x_5 = nI (lst Lt ee + 3) := by rw [e_5]; exact nI_add (lst Lt ee) 3
  subst h9
  have hpd9 := pdf_N (cx := [oX7 xl (nI lz) lsg, cC aC lsg 64 sg]) hP hD hS hA [5, 6] (by decide) rfl
  have hPc := hpd9.1
  have hDc := hpd9.2.1
  have hFc := hpd9.2.2
  clear hpd9
  refine va_calli (va_runV (As := [Value.int (nI (lst Lt ee + 3))]) (rest := []) ⟨hx, hb, hml, hown, hts⟩ (c_X7_digit l dC dI aC H.size xl lsg lz Lt sg (lst Lt ee + 3) (hlt0) (by omega)) ⟨(callB_of 1 hts (gG kw_314) rfl rfl rfl (hts _ (gw kw_3 rfl)) (hts _ (gw kw_311 rfl)) hd_X7_digit ⟨Nat.le_of_ble_eq_true rfl, Nat.le_of_ble_eq_true rfl⟩), (hts _ (gw kw_313 rfl)), (hts _ (gw ks_4 rfl))⟩ ⟨fb_std, va_recv (q := (RX7, TX7, 2)) hK hPc (ci := 7) (q0 := 0) rfl rfl, pre_std hPc hK hDc hN⟩ rfl rfl hl.1 rfl (lv_room (Nat.le_of_ble_eq_true rfl)) dX7_tellOne_22 ⟨Nat.le_of_ble_eq_true rfl, Nat.le_of_ble_eq_true rfl⟩) hS (fun q _ h => hFc q h) hFc (fun x_6 u9 t9 H1 locs ht hvm hw_6 hB hz1 hk1 hS => ?_)
  obtain ⟨hP1, hK1, hD1⟩ := hB
  rw [ht] at hP1
  clear hK1
  try dsimp only at hw_6
  have hpd9 : PDx (dC, dI) classes A H1 [oX4 h1 ek ef ew ep es (nI (n + cm Lt ee)) (nI sn) dn, cI aC ek 8 kf, cI aC ef 8 ff, cI aC ew 8 wf, cI aC es 5 stf, oX7 xl (nI lz) lsg, cC aC lsg 64 sg] := jn_N (wr := [oX4 h1 ek ef ew ep es (nI (n + cm Lt ee)) (nI sn) dn, cI aC ek 8 kf, cI aC ef 8 ff, cI aC ew 8 wf, cI aC es 5 stf]) hFc hk1 hP1 hD1 hP hD [5, 6] [0, 1, 2, 3, 4] rfl rfl (by decide) (by decide)
  have hP := hpd9.1
  have hD := hpd9.2
  clear hpd9
  generalize H1 = H at hP hS ⊢
  clear hPc hDc hFc hz1 hk1 hP1 hD1 ht hvm
  have hz_22 := hw_6
  refine lv_istore (lv' := [(6, Value.int x_6), (5, Value.int x_4), (4, Value.int x_2), (0, Value.ref xl), (1, Value.ref h1), (2, Value.int (nI (lst Lt ee))), (3, Value.int (nI ee))]) hx hb dX7_tellOne_25 hl (by decide) rfl (fun ls hl => ?_)
  refine lv_aload_n hx hb dX7_tellOne_27 rfl (lv_at hl 3 rfl) ?_
  refine va_get (D := (dC, dI)) (ci := 7) (v := Value.ref lsg) (C := RX7) (T := TX7) (N := 2) hx hb hts inX7 hown hK hP 5 rfl rfl 1 (by decide) (hts _ (gw kw_82 rfl)) (fun _ h9 => h9) rfl dX7_tellOne_28 ?_
  refine lv_iload_n hx hb dX7_tellOne_31 rfl (lv_at hl 5 rfl) ?_
  have h_7 : vp_in (nI (lst Lt ee)) 64 := vp_in_nI (by omega) (by omega)
  refine va_cald hx hb hK hP 6 1 rfl rfl h_7 dX7_tellOne_32 ?_
  refine lv_topi (fun x_8 e_8 => ?_)
  have h9 : x_8 = nI (Lt (lst Lt ee)) := by rw [e_8, nI_clamp (by omega)]; exact (hL (lst Lt ee) (by omega)).1
  subst h9
  refine lv_bipush (v := 109) hx hb dX7_tellOne_33 (by decide) ?_
  refine lv_icmp_ne (tgt := 51) hx hb dX7_tellOne_35 (by decide) (fun c_9 => ?_) (fun c_9 => ?_)
  · refine lv_aload_n hx hb dX7_tellOne_51 rfl (lv_at hl 3 rfl) ?_
    refine va_get (D := (dC, dI)) (ci := 7) (v := Value.ref lsg) (C := RX7) (T := TX7) (N := 2) hx hb hts inX7 hown hK hP 5 rfl rfl 1 (by decide) (hts _ (gw kw_82 rfl)) (fun _ h9 => h9) rfl dX7_tellOne_52 ?_
    refine lv_iload_n hx hb dX7_tellOne_55 rfl (lv_at hl 5 rfl) ?_
    have h_10 : vp_in (nI (lst Lt ee)) 64 := vp_in_nI (by omega) (by omega)
    refine va_cald hx hb hK hP 6 1 rfl rfl h_10 dX7_tellOne_56 ?_
    refine lv_topi (fun x_11 e_11 => ?_)
    have h9 : x_11 = nI (Lt (lst Lt ee)) := by rw [e_11, nI_clamp (by omega)]; exact (hL (lst Lt ee) (by omega)).1
    subst h9
    refine lv_bipush (v := 108) hx hb dX7_tellOne_57 (by decide) ?_
    refine lv_icmp_ne (tgt := 89) hx hb dX7_tellOne_59 (by decide) (fun c_12 => ?_) (fun c_12 => ?_)
    · have hmc : Lt (lst Lt ee) = 99 := by
        rcases (STM_k hst).1 with q | q | q
        · exact absurd (by rw [q]; rfl) c_9
        · exact absurd (by rw [q]; rfl) c_12
        · exact q
      have hdc := STM_c hst hmc
      refine lv_aload_n hx hb dX7_tellOne_89 rfl (lv_at hl 4 rfl) ?_
      refine va_get (D := (dC, dI)) (ci := 4) (v := Value.ref es) (C := RX4) (T := TX4) (N := 8) hx hb hts inX4 hown hK hP 0 rfl rfl 4 (by decide) (hts _ (gw kw_46 rfl)) (fun _ h9 => h9) rfl dX7_tellOne_90 ?_
      refine lv_iconst (v := 0) hx hb dX7_tellOne_93 (by decide) ?_
      refine lv_iload_n hx hb dX7_tellOne_94 rfl (lv_at hl 6 rfl) ?_
      refine lv_iload_n hx hb dX7_tellOne_95 rfl (lv_at hl 5 rfl) ?_
      refine lv_isub hx hb dX7_tellOne_96 ?_
      refine lv_topi (fun x_13 e_13 => ?_)
      have h9 : x_13 = nI (ee - lst Lt ee) := by rw [e_13]; exact pk_sub (by omega)
      subst h9
      refine lv_iconst (v := 3) hx hb dX7_tellOne_97 (by decide) ?_
      refine lv_icmp_ne (tgt := 112) hx hb dX7_tellOne_98 (by decide) (fun c_14 => ?_) (fun c_14 => ?_)
      · refine lv_iload hx hb dX7_tellOne_112 (lv_at hl 2 rfl) ?_
        have h_15 : vp_in 0 5 := by unfold vp_in; decide
        refine va_iast hx hb hK hP hD hS 4 0 rfl rfl h_15 dX7_tellOne_114 (fun H locs hP hD hS => ?_)
        obtain ⟨f_16, e_f_16⟩ : ∃ y : Nat → Int32, y = upd stf (0 : Int32).toNatClampNeg x_2 := ⟨_, rfl⟩
        have hpd9 : PDx (dC, dI) classes A H [oX4 h1 ek ef ew ep es (nI (n + cm Lt ee)) (nI sn) dn, cI aC ek 8 kf, cI aC ef 8 ff, cI aC ew 8 wf, cI aC es 5 f_16, oX7 xl (nI lz) lsg, cC aC lsg 64 sg] := by rw [e_f_16]; exact ⟨hP, hD⟩
        have hP := hpd9.1
        have hD := hpd9.2
        clear hpd9
        have hsz : nI (n + cm Lt ee) = nI (n + cm Lt (ee + 1)) := by rw [cm_no (fun z => c_9 (by rw [z.2]; rfl))]
        have hP : va_P (dC, dI) classes [oX4 h1 ek ef ew ep es (nI (n + cm Lt (ee + 1))) (nI sn) dn, cI aC ek 8 kf, cI aC ef 8 ff, cI aC ew 8 wf, cI aC es 5 f_16, oX7 xl (nI lz) lsg, cC aC lsg 64 sg] H := by rw [← hsz]; exact hP
        have hD : va_D A [oX4 h1 ek ef ew ep es (nI (n + cm Lt (ee + 1))) (nI sn) dn, cI aC ek 8 kf, cI aC ef 8 ff, cI aC ew 8 wf, cI aC es 5 f_16, oX7 xl (nI lz) lsg, cC aC lsg 64 sg] := by rw [← hsz]; exact hD
        have hpd9 := pd_N (cx := [oX7 xl (nI lz) lsg, cC aC lsg 64 sg, oX4 h1 ek ef ew ep es (nI (n + cm Lt (ee + 1))) (nI sn) dn, cI aC ek 8 kf, cI aC ef 8 ff, cI aC ew 8 wf, cI aC es 5 f_16]) hP hD [5, 6, 0, 1, 2, 3, 4] (by decide) rfl
        have hP9 := hpd9.1
        have hD9 := hpd9.2
        refine W.widen (k := 0) (n := 0) (by omega) (by omega) ?_
        exact W.vret hx hb hr (fun t ht hW => ⟨⟨(kf, ff, wf, f_16), rfl, EVT_c hev hsem hmc hst (by rw [e_f_16, hz_4]; rcases hdc with ⟨q1, q2⟩ | ⟨q1, q2, q3⟩ <;> first | (rw [if_pos (by omega), dgv q2]; unfold lC; rw [if_neg (by omega)]; rfl) | (exfalso; exact c_14 (by rw [show ee - lst Lt ee = 3 by omega]; rfl))), by rw [ht]; exact hP9, va_K.moved hW.alike hK, hD9⟩, hS.F ht⟩) hS.2.2 dX7_tellOne_115
      · refine lv_iload hx hb dX7_tellOne_101 (lv_at hl 2 rfl) ?_
        refine lv_bipush (v := 10) hx hb dX7_tellOne_103 (by decide) ?_
        refine lv_imul hx hb dX7_tellOne_105 ?_
        refine lv_topi (fun x_17 e_17 => ?_)
        refine lv_iload hx hb dX7_tellOne_106 (lv_at hl 1 rfl) ?_
        refine lv_iadd hx hb dX7_tellOne_108 ?_
        refine lv_topi (fun x_18 e_18 => ?_)
        refine lv_goto (tgt := 114) hx hb dX7_tellOne_109 (by decide) ?_
        have h_19 : vp_in 0 5 := by unfold vp_in; decide
        refine va_iast hx hb hK hP hD hS 4 0 rfl rfl h_19 dX7_tellOne_114 (fun H locs hP hD hS => ?_)
        obtain ⟨f_20, e_f_20⟩ : ∃ y : Nat → Int32, y = upd stf (0 : Int32).toNatClampNeg x_18 := ⟨_, rfl⟩
        have hpd9 : PDx (dC, dI) classes A H [oX4 h1 ek ef ew ep es (nI (n + cm Lt ee)) (nI sn) dn, cI aC ek 8 kf, cI aC ef 8 ff, cI aC ew 8 wf, cI aC es 5 f_20, oX7 xl (nI lz) lsg, cC aC lsg 64 sg] := by rw [e_f_20]; exact ⟨hP, hD⟩
        have hP := hpd9.1
        have hD := hpd9.2
        clear hpd9
        have hsz : nI (n + cm Lt ee) = nI (n + cm Lt (ee + 1)) := by rw [cm_no (fun z => c_9 (by rw [z.2]; rfl))]
        have hP : va_P (dC, dI) classes [oX4 h1 ek ef ew ep es (nI (n + cm Lt (ee + 1))) (nI sn) dn, cI aC ek 8 kf, cI aC ef 8 ff, cI aC ew 8 wf, cI aC es 5 f_20, oX7 xl (nI lz) lsg, cC aC lsg 64 sg] H := by rw [← hsz]; exact hP
        have hD : va_D A [oX4 h1 ek ef ew ep es (nI (n + cm Lt (ee + 1))) (nI sn) dn, cI aC ek 8 kf, cI aC ef 8 ff, cI aC ew 8 wf, cI aC es 5 f_20, oX7 xl (nI lz) lsg, cC aC lsg 64 sg] := by rw [← hsz]; exact hD
        have hpd9 := pd_N (cx := [oX7 xl (nI lz) lsg, cC aC lsg 64 sg, oX4 h1 ek ef ew ep es (nI (n + cm Lt (ee + 1))) (nI sn) dn, cI aC ek 8 kf, cI aC ef 8 ff, cI aC ew 8 wf, cI aC es 5 f_20]) hP hD [5, 6, 0, 1, 2, 3, 4] (by decide) rfl
        have hP9 := hpd9.1
        have hD9 := hpd9.2
        refine W.widen (k := 0) (n := 0) (by omega) (by omega) ?_
        exact W.vret hx hb hr (fun t ht hW => ⟨⟨(kf, ff, wf, f_20), rfl, EVT_c hev hsem hmc hst (by rw [e_f_20, e_18, e_17, hz_4, hz_13]; rcases hdc with ⟨q1, q2⟩ | ⟨q1, q2, q3⟩ <;> first | (exfalso; have h7 := (nI_b0 (x := ee - lst Lt ee) (k := 3) (by omega) (by omega)).mp c_14; omega) | (rw [if_pos (by omega), if_pos (by omega), lc_v q2 q3]; unfold lC; rw [if_pos q1]; rfl)), by rw [ht]; exact hP9, va_K.moved hW.alike hK, hD9⟩, hS.F ht⟩) hS.2.2 dX7_tellOne_115
    · have hm8 : Lt (lst Lt ee) = 108 := (nI_b0 (k := 108) (hL _ (by omega)).2 (by omega)).mp c_12
      obtain ⟨he4, hd1, hd2, hd3⟩ := STM_d hst (Or.inr hm8)
      have hv1 := dg_v hz_4 (by omega) hd1
      have hv2 := dg_v hz_13 (by omega) hd2
      have hv3 := dg_v hz_22 (by omega) hd3
      refine lv_aload_n hx hb dX7_tellOne_62 rfl (lv_at hl 4 rfl) ?_
      refine va_get (D := (dC, dI)) (ci := 4) (v := Value.ref es) (C := RX4) (T := TX4) (N := 8) hx hb hts inX4 hown hK hP 0 rfl rfl 4 (by decide) (hts _ (gw kw_46 rfl)) (fun _ h9 => h9) rfl dX7_tellOne_63 ?_
      refine lv_iconst (v := 1) hx hb dX7_tellOne_66 (by decide) ?_
      refine lv_iload hx hb dX7_tellOne_67 (lv_at hl 2 rfl) ?_
      have h_21 : vp_in 1 5 := by unfold vp_in; decide
      refine va_iast hx hb hK hP hD hS 4 0 rfl rfl h_21 dX7_tellOne_69 (fun H locs hP hD hS => ?_)
      obtain ⟨f_22, e_f_22⟩ : ∃ y : Nat → Int32, y = upd stf (1 : Int32).toNatClampNeg x_2 := ⟨_, rfl⟩
      have hpd9 : PDx (dC, dI) classes A H [oX4 h1 ek ef ew ep es (nI (n + cm Lt ee)) (nI sn) dn, cI aC ek 8 kf, cI aC ef 8 ff, cI aC ew 8 wf, cI aC es 5 f_22, oX7 xl (nI lz) lsg, cC aC lsg 64 sg] := by rw [e_f_22]; exact ⟨hP, hD⟩
      have hP := hpd9.1
      have hD := hpd9.2
      clear hpd9
      refine lv_aload_n hx hb dX7_tellOne_70 rfl (lv_at hl 4 rfl) ?_
      refine va_get (D := (dC, dI)) (ci := 4) (v := Value.ref es) (C := RX4) (T := TX4) (N := 8) hx hb hts inX4 hown hK hP 0 rfl rfl 4 (by decide) (hts _ (gw kw_46 rfl)) (fun _ h9 => h9) rfl dX7_tellOne_71 ?_
      refine lv_iconst (v := 2) hx hb dX7_tellOne_74 (by decide) ?_
      refine lv_iload hx hb dX7_tellOne_75 (lv_at hl 1 rfl) ?_
      have h_23 : vp_in 2 5 := by unfold vp_in; decide
      refine va_iast hx hb hK hP hD hS 4 0 rfl rfl h_23 dX7_tellOne_77 (fun H locs hP hD hS => ?_)
      obtain ⟨f_24, e_f_24⟩ : ∃ y : Nat → Int32, y = upd f_22 (2 : Int32).toNatClampNeg x_4 := ⟨_, rfl⟩
      have hpd9 : PDx (dC, dI) classes A H [oX4 h1 ek ef ew ep es (nI (n + cm Lt ee)) (nI sn) dn, cI aC ek 8 kf, cI aC ef 8 ff, cI aC ew 8 wf, cI aC es 5 f_24, oX7 xl (nI lz) lsg, cC aC lsg 64 sg] := by rw [e_f_24]; exact ⟨hP, hD⟩
      have hP := hpd9.1
      have hD := hpd9.2
      clear hpd9
      refine lv_aload_n hx hb dX7_tellOne_78 rfl (lv_at hl 4 rfl) ?_
      refine va_get (D := (dC, dI)) (ci := 4) (v := Value.ref es) (C := RX4) (T := TX4) (N := 8) hx hb hts inX4 hown hK hP 0 rfl rfl 4 (by decide) (hts _ (gw kw_46 rfl)) (fun _ h9 => h9) rfl dX7_tellOne_79 ?_
      refine lv_iconst (v := 3) hx hb dX7_tellOne_82 (by decide) ?_
      refine lv_iload hx hb dX7_tellOne_83 (lv_at hl 0 rfl) ?_
      have h_25 : vp_in 3 5 := by unfold vp_in; decide
      refine va_iast hx hb hK hP hD hS 4 0 rfl rfl h_25 dX7_tellOne_85 (fun H locs hP hD hS => ?_)
      obtain ⟨f_26, e_f_26⟩ : ∃ y : Nat → Int32, y = upd f_24 (3 : Int32).toNatClampNeg x_6 := ⟨_, rfl⟩
      have hpd9 : PDx (dC, dI) classes A H [oX4 h1 ek ef ew ep es (nI (n + cm Lt ee)) (nI sn) dn, cI aC ek 8 kf, cI aC ef 8 ff, cI aC ew 8 wf, cI aC es 5 f_26, oX7 xl (nI lz) lsg, cC aC lsg 64 sg] := by rw [e_f_26]; exact ⟨hP, hD⟩
      have hP := hpd9.1
      have hD := hpd9.2
      clear hpd9
      refine lv_goto (tgt := 115) hx hb dX7_tellOne_86 (by decide) ?_
      have hsz : nI (n + cm Lt ee) = nI (n + cm Lt (ee + 1)) := by rw [cm_no (fun z => c_9 (by rw [z.2]; rfl))]
      have hP : va_P (dC, dI) classes [oX4 h1 ek ef ew ep es (nI (n + cm Lt (ee + 1))) (nI sn) dn, cI aC ek 8 kf, cI aC ef 8 ff, cI aC ew 8 wf, cI aC es 5 f_26, oX7 xl (nI lz) lsg, cC aC lsg 64 sg] H := by rw [← hsz]; exact hP
      have hD : va_D A [oX4 h1 ek ef ew ep es (nI (n + cm Lt (ee + 1))) (nI sn) dn, cI aC ek 8 kf, cI aC ef 8 ff, cI aC ew 8 wf, cI aC es 5 f_26, oX7 xl (nI lz) lsg, cC aC lsg 64 sg] := by rw [← hsz]; exact hD
      have hpd9 := pd_N (cx := [oX7 xl (nI lz) lsg, cC aC lsg 64 sg, oX4 h1 ek ef ew ep es (nI (n + cm Lt (ee + 1))) (nI sn) dn, cI aC ek 8 kf, cI aC ef 8 ff, cI aC ew 8 wf, cI aC es 5 f_26]) hP hD [5, 6, 0, 1, 2, 3, 4] (by decide) rfl
      have hP9 := hpd9.1
      have hD9 := hpd9.2
      refine W.widen (k := 0) (n := 0) (by omega) (by omega) ?_
      exact W.vret hx hb hr (fun t ht hW => ⟨⟨(kf, ff, wf, f_26), rfl, EVT_l hev hsem hm8 hrg (by rw [e_f_26, e_f_24, e_f_22, hv1, hv2, hv3]; rfl), by rw [ht]; exact hP9, va_K.moved hW.alike hK, hD9⟩, hS.F ht⟩) hS.2.2 dX7_tellOne_115
  · have hm9 : Lt (lst Lt ee) = 109 := (nI_b0 (k := 109) (hL _ (by omega)).2 (by omega)).mp c_9
    obtain ⟨he4, hd1, hd2, hd3⟩ := STM_d hst (Or.inl hm9)
    have hv1 := dg_v hz_4 (by omega) hd1
    have hv2 := dg_v hz_13 (by omega) hd2
    have hv3 := dg_v hz_22 (by omega) hd3
    have hr9 := (hrg.1 hm9).2.2.1
    have hc9 := cm_y hsem hm9
    refine lv_aload_n hx hb dX7_tellOne_38 rfl (lv_at hl 4 rfl) ?_
    refine lv_iload hx hb dX7_tellOne_39 (lv_at hl 2 rfl) ?_
    refine lv_iload hx hb dX7_tellOne_41 (lv_at hl 1 rfl) ?_
    refine lv_iload hx hb dX7_tellOne_43 (lv_at hl 0 rfl) ?_
    have hpd9 := pdf_N (cx := [oX4 h1 ek ef ew ep es (nI (n + cm Lt ee)) (nI sn) dn, cI aC ek 8 kf, cI aC ef 8 ff, cI aC ew 8 wf]) hP hD hS hA [0, 1, 2, 3] (by decide) rfl
    have hPc := hpd9.1
    have hDc := hpd9.2.1
    have hFc := hpd9.2.2
    clear hpd9
    refine va_callv (va_runV (As := [Value.int x_2, Value.int x_4, Value.int x_6]) (rest := []) ⟨hx, hb, hml, hown, hts⟩ (c_X4_add l dC dI aC H.size h1 ek ef ew ep es (n + cm Lt ee) (nI sn) dn kf ff wf x_2 x_4 x_6 (by omega)) ⟨(callB_of 3 hts (gG kw_328) rfl rfl rfl (hts _ (gw kw_2 rfl)) (hts _ (gw kw_325 rfl)) hd_X4_add ⟨Nat.le_of_ble_eq_true rfl, Nat.le_of_ble_eq_true rfl⟩), (hts _ (gw kw_326 rfl)), (hts _ (gw kw_327 rfl))⟩ ⟨fb_std, va_recv (q := (RX4, TX4, 8)) hK hPc (ci := 4) (q0 := 0) rfl rfl, pre_std hPc hK hDc hN⟩ rfl rfl hl.1 rfl (lv_room (Nat.le_of_ble_eq_true rfl)) dX7_tellOne_45 ⟨Nat.le_of_ble_eq_true rfl, Nat.le_of_ble_eq_true rfl⟩) hS (fun q _ h => hFc q h) hFc (fun u9 t9 H1 locs ht hvm hw_27 hB hz1 hk1 hS => ?_)
    obtain ⟨u_28, u_29, u_30⟩ := u9
    obtain ⟨hP1, hK1, hD1⟩ := hB
    rw [ht] at hP1
    clear hK1
    try dsimp only at hw_27
    have hpd9 : PDx (dC, dI) classes A H1 [cI aC es 5 stf, oX7 xl (nI lz) lsg, cC aC lsg 64 sg, oX4 h1 ek ef ew ep es (nI ((n + cm Lt ee) + 1)) (nI sn) dn, cI aC ek 8 u_28, cI aC ef 8 u_29, cI aC ew 8 u_30] := jn_N (wr := [cI aC es 5 stf, oX7 xl (nI lz) lsg, cC aC lsg 64 sg]) hFc hk1 hP1 hD1 hP hD [0, 1, 2, 3] [4, 5, 6] rfl rfl (by decide) (by decide)
    have hP := hpd9.1
    have hD := hpd9.2
    clear hpd9
    generalize H1 = H at hP hS ⊢
    clear hPc hDc hFc hz1 hk1 hP1 hD1 ht hvm
    have hz_45 := hw_27
    refine lv_goto (tgt := 115) hx hb dX7_tellOne_48 (by decide) ?_
    have hsz : nI ((n + cm Lt ee) + 1) = nI (n + cm Lt (ee + 1)) := by rw [hc9]; rfl
    have hP : va_P (dC, dI) classes [cI aC es 5 stf, oX7 xl (nI lz) lsg, cC aC lsg 64 sg, oX4 h1 ek ef ew ep es (nI (n + cm Lt (ee + 1))) (nI sn) dn, cI aC ek 8 u_28, cI aC ef 8 u_29, cI aC ew 8 u_30] H := by rw [← hsz]; exact hP
    have hD : va_D A [cI aC es 5 stf, oX7 xl (nI lz) lsg, cC aC lsg 64 sg, oX4 h1 ek ef ew ep es (nI (n + cm Lt (ee + 1))) (nI sn) dn, cI aC ek 8 u_28, cI aC ef 8 u_29, cI aC ew 8 u_30] := by rw [← hsz]; exact hD
    have hpd9 := pd_N (cx := [oX7 xl (nI lz) lsg, cC aC lsg 64 sg, oX4 h1 ek ef ew ep es (nI (n + cm Lt (ee + 1))) (nI sn) dn, cI aC ek 8 u_28, cI aC ef 8 u_29, cI aC ew 8 u_30, cI aC es 5 stf]) hP hD [1, 2, 3, 4, 5, 6, 0] (by decide) rfl
    have hP9 := hpd9.1
    have hD9 := hpd9.2
    refine W.widen (k := 0) (n := 0) (by omega) (by omega) ?_
    exact W.vret hx hb hr (fun t ht hW => ⟨⟨(u_28, u_29, u_30, stf), rfl, EVT_m hev hsem hm9 hst hrg (by rw [hz_45.1, hv1]) (by rw [hz_45.2.1, hv2]) (by rw [hz_45.2.2, hv3]), by rw [ht]; exact hP9, va_K.moved hW.alike hK, hD9⟩, hS.F ht⟩) hS.2.2 dX7_tellOne_115

set_option maxHeartbeats 1000000 in
set_option maxRecDepth 100000 in
/-- X7_tell -/
theorem c_X7_tell (l : Launch) (dC : Nat → ClassId) (dI : Nat → Nat → Nat) (aC : Nat → ClassId) (sz : Nat) (xl : Nat) (lsg : Nat) (lz : Nat) (Lt : Nat → Nat) (sg : Nat → Int32) (h1 : Nat) (ek : Nat) (ef : Nat) (ew : Nat) (ep : Nat) (es : Nat) (n : Nat) (sn : Nat) (dn : Int32) (K : Nat → Nat) (F : Nat → Nat) (W0 : Nat → Nat) (S5 : Nat → Nat) (kf : Nat → Int32) (ff : Nat → Int32) (wf : Nat → Int32) (stf : Nat → Int32) (hlt0 : LTR lz Lt sg) (hnb : lrn Lt lz ≠ 9) (hrt : fwr Lt n dn 0 lz = -9) (hev0 : EVS n sn dn K F W0 S5 kf ff wf stf) : Met l yX7_tell (wW yX7_tell cX7_tell 5 (some .int)) ({ frames := 2, cells := 0, slots := 0, locals := 49 } : Room) (va_Pc [Value.ref xl, Value.ref h1] (fun U => U.heap.size = sz ∧ va_P (dC, dI) classes [oX7 xl (nI lz) lsg, cC aC lsg 64 sg, oX4 h1 ek ef ew ep es (nI n) (nI sn) dn, cI aC ek 8 kf, cI aC ef 8 ff, cI aC ew 8 wf, cI aC es 5 stf] U.heap ∧ va_K (dC, dI) classes (TY aC) U ∧ va_D (fun _ => True) [oX7 xl (nI lz) lsg, cC aC lsg 64 sg, oX4 h1 ek ef ew ep es (nI n) (nI sn) dn, cI aC ek 8 kf, cI aC ef 8 ff, cI aC ew 8 wf, cI aC es 5 stf] ∧ NX U)) (va_Qi (fun (r : Int32) (u : (Nat → Int32) × (Nat → Int32) × (Nat → Int32) × (Nat → Int32)) => match u with | (kf2, ff2, wf2, stf2) => r = nI (scn Lt lz) ∧ EVT Lt lz n sn dn K F W0 S5 kf2 ff2 wf2 stf2) (fun (u : (Nat → Int32) × (Nat → Int32) × (Nat → Int32) × (Nat → Int32)) (t : State) => match u with | (kf2, ff2, wf2, stf2) => va_P (dC, dI) classes [oX7 xl (nI lz) lsg, cC aC lsg 64 sg, oX4 h1 ek ef ew ep es (nI (n + cm Lt lz)) (nI sn) dn, cI aC ek 8 kf2, cI aC ef 8 ff2, cI aC ew 8 wf2, cI aC es 5 stf2] t.heap ∧ va_K (dC, dI) classes (TY aC) t ∧ va_D (va_A [oX7 xl (nI lz) lsg, cC aC lsg 64 sg, oX4 h1 ek ef ew ep es (nI n) (nI sn) dn, cI aC ek 8 kf, cI aC ef 8 ff, cI aC ew 8 wf, cI aC es 5 stf] sz) [oX7 xl (nI lz) lsg, cC aC lsg 64 sg, oX4 h1 ek ef ew ep es (nI (n + cm Lt lz)) (nI sn) dn, cI aC ek 8 kf2, cI aC ef 8 ff2, cI aC ew 8 wf2, cI aC es 5 stf2]) (va_A [oX7 xl (nI lz) lsg, cC aC lsg 64 sg, oX4 h1 ek ef ew ep es (nI n) (nI sn) dn, cI aC ek 8 kf, cI aC ef 8 ff, cI aC ew 8 wf, cI aC es 5 stf] sz)) 0 0 (va_A [oX7 xl (nI lz) lsg, cC aC lsg 64 sg, oX4 h1 ek ef ew ep es (nI n) (nI sn) dn, cI aC ek 8 kf, cI aC ef 8 ff, cI aC ew 8 wf, cI aC es 5 stf] sz) := by
  refine Met.ofW (cc := cX7_tell) (maxL := 5) (ret := (some .int)) (by decide) rfl ?_
  intro p e s m args below meth c s₁ B hml hv
  obtain ⟨rfl, hsz, hP, hK, hD0, hN⟩ := hv
  have hx := B.exec
  have hb := B.bytes
  have hr := B.returns
  have hts0 := atoms_spec (ws := (wW yX7_tell cX7_tell 5 (some .int))) B.pre
  have hts : ∀ w9 ∈ lw_G, w9.before ([Value.ref xl, Value.ref h1] : List Value).toArray s = true := fun w9 h9 => hts0 w9 (List.mem_cons_of_mem _ h9)
  have hown : s.vm.findClass RX7 = some m.cls := findClass_of_methodNamed (x := yX7_tell) B.named
  have hlocks := B.notSynchronized
  subst hsz
  have hD := hD0.self (sz := s.heap.size)
  generalize hAe : va_A [oX7 xl (nI lz) lsg, cC aC lsg 64 sg, oX4 h1 ek ef ew ep es (nI n) (nI sn) dn, cI aC ek 8 kf, cI aC ef 8 ff, cI aC ew 8 wf, cI aC es 5 stf] s.heap.size = A at hD ⊢
  have hA : ∀ q : Nat, s.heap.size ≤ q → A q := fun q h => by rw [← hAe]; exact Or.inr h
  obtain ⟨H, hHe⟩ : ∃ H : Heap, H = s.heap := ⟨_, rfl⟩
  have hS : va_S A s.heap H [] := by rw [hHe]; exact va_S.rf
  have hP : va_P (dC, dI) classes [oX7 xl (nI lz) lsg, cC aC lsg 64 sg, oX4 h1 ek ef ew ep es (nI n) (nI sn) dn, cI aC ek 8 kf, cI aC ef 8 ff, cI aC ew 8 wf, cI aC es 5 stf] H := by rw [hHe]; exact hP
  have hl := lv_entry ([Value.ref xl, Value.ref h1]) (n := 5) (Nat.le_of_ble_eq_true rfl)
  rw [lg_entry_eq]
  generalize (lg_sl ([Value.ref xl, Value.ref h1]) ++ List.replicate (5 - (lg_sl ([Value.ref xl, Value.ref h1])).length) Slot.unset).toArray = ls at hl ⊢
  have hl : lv_has ls 5 [(0, Value.ref xl), (1, Value.ref h1)] := hl
  rw [← hHe]
  have hz6 := hlt0.1
  have hL := hlt0.2
  refine lv_iconst (v := 0) hx hb dX7_tell_0 (by decide) ?_
  refine lv_istore_n (lv' := [(2, Value.int 0), (0, Value.ref xl), (1, Value.ref h1)]) hx hb dX7_tell_1 rfl hl (by decide) rfl (fun ls hl => ?_)
  refine lv_iconst (v := 0) hx hb dX7_tell_2 (by decide) ?_
  refine lv_istore_n (lv' := [(3, Value.int 0), (2, Value.int 0), (0, Value.ref xl), (1, Value.ref h1)]) hx hb dX7_tell_3 rfl hl (by decide) rfl (fun ls hl => ?_)
  refine lv_iconst (v := 0) hx hb dX7_tell_4 (by decide) ?_
  refine lv_istore (lv' := [(4, Value.int 0), (3, Value.int 0), (2, Value.int 0), (0, Value.ref xl), (1, Value.ref h1)]) hx hb dX7_tell_5 hl (by decide) rfl (fun ls hl => ?_)
  have lp_7 : ∀ (fu : Nat) (pp : Nat) (kc : Nat → Int32) (fc : Nat → Int32) (wc : Nat → Int32) (sc9 : Nat → Int32) (hfu : lz - pp < fu) (hp : pp ≤ lz) (hev : EVT Lt pp n sn dn K F W0 S5 kc fc wc sc9) (H : Heap) (locs : List Loc) (ls : Array Slot), va_P (dC, dI) classes [oX7 xl (nI lz) lsg, cC aC lsg 64 sg, oX4 h1 ek ef ew ep es (nI (n + cm Lt pp)) (nI sn) dn, cI aC ek 8 kc, cI aC ef 8 fc, cI aC ew 8 wc, cI aC es 5 sc9] H → va_D A [oX7 xl (nI lz) lsg, cC aC lsg 64 sg, oX4 h1 ek ef ew ep es (nI (n + cm Lt pp)) (nI sn) dn, cI aC ek 8 kc, cI aC ef 8 fc, cI aC ew 8 wc, cI aC es 5 sc9] → va_S A s.heap H locs → lv_has ls 5 [(0, Value.ref xl), (1, Value.ref h1), (2, Value.int (nI (scn Lt pp))), (3, Value.int (nI (lst Lt pp))), (4, Value.int (nI pp))] → W p l e (headSpec (wW yX7_tell cX7_tell 5 (some .int)) ({ frames := 2, cells := 0, slots := 0, locals := 49 } : Room)).room s m ([Value.ref xl, Value.ref h1] : List Value).toArray below meth c H locs 0 0 (MQ below (va_Qi (fun (r : Int32) (u : (Nat → Int32) × (Nat → Int32) × (Nat → Int32) × (Nat → Int32)) => match u with | (kf2, ff2, wf2, stf2) => r = nI (scn Lt lz) ∧ EVT Lt lz n sn dn K F W0 S5 kf2 ff2 wf2 stf2) (fun (u : (Nat → Int32) × (Nat → Int32) × (Nat → Int32) × (Nat → Int32)) (t : State) => match u with | (kf2, ff2, wf2, stf2) => va_P (dC, dI) classes [oX7 xl (nI lz) lsg, cC aC lsg 64 sg, oX4 h1 ek ef ew ep es (nI (n + cm Lt lz)) (nI sn) dn, cI aC ek 8 kf2, cI aC ef 8 ff2, cI aC ew 8 wf2, cI aC es 5 stf2] t.heap ∧ va_K (dC, dI) classes (TY aC) t ∧ va_D A [oX7 xl (nI lz) lsg, cC aC lsg 64 sg, oX4 h1 ek ef ew ep es (nI (n + cm Lt lz)) (nI sn) dn, cI aC ek 8 kf2, cI aC ef 8 ff2, cI aC ew 8 wf2, cI aC es 5 stf2]) A) ([Value.ref xl, Value.ref h1] : List Value).toArray s 0 0 A) (F0 m 7 ls []) := by
    intro fu
    induction fu with
    | zero => intro pp kc fc wc sc9 hfu; exact absurd hfu (Nat.not_lt_zero _)
    | succ fu ih_7 =>
      intro pp kc fc wc sc9 hfu hp hev H locs ls hP hD hS hl
      refine lv_iload hx hb dX7_tell_7 (lv_at hl 4 rfl) ?_
      refine lv_aload_n hx hb dX7_tell_9 rfl (lv_at hl 0 rfl) ?_
      refine va_get (D := (dC, dI)) (ci := 7) (v := Value.int (nI lz)) (C := RX7) (T := TX7) (N := 2) hx hb hts inX7 hown hK hP 0 rfl rfl 0 (by decide) (hts _ (gw kw_80 rfl)) (fun _ h9 => h9) rfl dX7_tell_10 ?_
      refine lv_icmp_ge (tgt := 50) hx hb dX7_tell_13 (by decide) (fun c_1 => ?_) (fun c_1 => ?_)
      · have hpz : pp = lz := by
          rcases Nat.lt_or_ge pp lz with q | q
          · exact absurd c_1 (nI_ge q (by omega))
          · omega
        subst hpz
        refine lv_iload_n hx hb dX7_tell_50 rfl (lv_at hl 2 rfl) ?_
        have hpd9 := pd_N (cx := [oX7 xl (nI pp) lsg, cC aC lsg 64 sg, oX4 h1 ek ef ew ep es (nI (n + cm Lt pp)) (nI sn) dn, cI aC ek 8 kc, cI aC ef 8 fc, cI aC ew 8 wc, cI aC es 5 sc9]) hP hD [0, 1, 2, 3, 4, 5, 6] (by decide) rfl
        have hP9 := hpd9.1
        have hD9 := hpd9.2
        refine W.widen (k := 0) (n := 0) (by omega) (by omega) ?_
        exact W.iret (v := nI (scn Lt pp)) hx hb hr (fun t ht hW => ⟨⟨(nI (scn Lt pp)), (kc, fc, wc, sc9), rfl, ⟨rfl, hev⟩, by rw [ht]; exact hP9, va_K.moved hW.alike hK, hD9⟩, hS.F ht⟩) hS.2.2 dX7_tell_51
      · have hlt : pp < lz := by
          rcases Nat.lt_or_ge pp lz with q | q
          · exact q
          · exact absurd (nI_le q (by omega)) c_1
        refine lv_aload_n hx hb dX7_tell_16 rfl (lv_at hl 0 rfl) ?_
        refine va_get (D := (dC, dI)) (ci := 7) (v := Value.ref lsg) (C := RX7) (T := TX7) (N := 2) hx hb hts inX7 hown hK hP 0 rfl rfl 1 (by decide) (hts _ (gw kw_82 rfl)) (fun _ h9 => h9) rfl dX7_tell_17 ?_
        refine lv_iload hx hb dX7_tell_20 (lv_at hl 4 rfl) ?_
        have h_2 : vp_in (nI pp) 64 := vp_in_nI (by omega) (by omega)
        refine va_cald hx hb hK hP 1 1 rfl rfl h_2 dX7_tell_22 ?_
        refine lv_topi (fun x_3 e_3 => ?_)
        have h9 : x_3 = nI (Lt pp) := by rw [e_3, nI_clamp (by omega)]; exact (hL pp (by omega)).1
        subst h9
        refine lv_bipush (v := 59) hx hb dX7_tell_23 (by decide) ?_
        refine lv_icmp_ne (tgt := 44) hx hb dX7_tell_25 (by decide) (fun c_4 => ?_) (fun c_4 => ?_)
        · have hne : ¬ Lt pp = 59 := fun z => c_4 (by rw [z]; rfl)
          have hl : lv_has ls 5 [(0, Value.ref xl), (1, Value.ref h1), (2, Value.int (nI (scn Lt (pp + 1)))), (3, Value.int (nI (lst Lt pp))), (4, Value.int (nI pp))] := by rw [← (show nI (scn Lt pp) = nI (scn Lt (pp + 1)) by rw [scn_no hne])]; exact hl
          have hl : lv_has ls 5 [(0, Value.ref xl), (1, Value.ref h1), (2, Value.int (nI (scn Lt (pp + 1)))), (3, Value.int (nI (lst Lt (pp + 1)))), (4, Value.int (nI pp))] := by rw [← (show nI (lst Lt pp) = nI (lst Lt (pp + 1)) by rw [lst_no hne])]; exact hl
          have hev2 := EVT_no hev hne
          have hsz : nI (n + cm Lt pp) = nI (n + cm Lt (pp + 1)) := by rw [cm_no (fun z => hne z.1)]
          have hP : va_P (dC, dI) classes [oX7 xl (nI lz) lsg, cC aC lsg 64 sg, oX4 h1 ek ef ew ep es (nI (n + cm Lt (pp + 1))) (nI sn) dn, cI aC ek 8 kc, cI aC ef 8 fc, cI aC ew 8 wc, cI aC es 5 sc9] H := by rw [← hsz]; exact hP
          have hD : va_D A [oX7 xl (nI lz) lsg, cC aC lsg 64 sg, oX4 h1 ek ef ew ep es (nI (n + cm Lt (pp + 1))) (nI sn) dn, cI aC ek 8 kc, cI aC ef 8 fc, cI aC ew 8 wc, cI aC es 5 sc9] := by rw [← hsz]; exact hD
          obtain ⟨x_5, e_5⟩ : ∃ y : Int32, y = (nI pp) + 1 := ⟨_, rfl⟩
          refine lv_iinc (v := x_5) (lv' := [(4, Value.int x_5), (0, Value.ref xl), (1, Value.ref h1), (2, Value.int (nI (scn Lt (pp + 1)))), (3, Value.int (nI (lst Lt (pp + 1))))]) hx hb dX7_tell_44 hl (k := 4) rfl (by rw [e_5]; rfl) (by decide) rfl (fun ls hl => ?_)
          have h9 : x_5 = nI (pp + 1) := by rw [e_5, nI_1]
          subst h9
          refine lv_goto (tgt := 7) hx hb dX7_tell_47 (by decide) ?_
          exact ih_7 (pp + 1) kc fc wc sc9 (by omega) (by omega) (hev2) _ _ _ (hP.sub [0, 1, 2, 3, 4, 5, 6] rfl) (hD.sub [0, 1, 2, 3, 4, 5, 6] (by decide) rfl) hS (lv_sub hl [1, 2, 3, 4, 0] rfl)
        · have hsem : Lt pp = 59 := (nI_b0 (k := 59) (hL pp hlt).2 (by omega)).mp c_4
          have hst := STM_r hnb hlt hsem
          have hrg := fwr_9 lz 0 (by omega) hrt pp (by omega) (by omega) hsem
          refine lv_aload_n hx hb dX7_tell_28 rfl (lv_at hl 0 rfl) ?_
          refine lv_aload_n hx hb dX7_tell_29 rfl (lv_at hl 1 rfl) ?_
          refine lv_iload_n hx hb dX7_tell_30 rfl (lv_at hl 3 rfl) ?_
          refine lv_iload hx hb dX7_tell_31 (lv_at hl 4 rfl) ?_
          have hpd9 := pdf_N (cx := [oX7 xl (nI lz) lsg, cC aC lsg 64 sg, oX4 h1 ek ef ew ep es (nI (n + cm Lt pp)) (nI sn) dn, cI aC ek 8 kc, cI aC ef 8 fc, cI aC ew 8 wc, cI aC es 5 sc9]) hP hD hS hA [0, 1, 2, 3, 4, 5, 6] (by decide) rfl
          have hPc := hpd9.1
          have hDc := hpd9.2.1
          have hFc := hpd9.2.2
          clear hpd9
          refine va_callv (va_runV (As := [Value.ref h1, Value.int (nI (lst Lt pp)), Value.int (nI pp)]) (rest := []) ⟨hx, hb, hml, hown, hts⟩ (c_X7_tellOne l dC dI aC H.size xl lsg lz Lt sg h1 ek ef ew ep es n sn dn K F W0 S5 kc fc wc sc9 pp (hlt0) (hst) (hlt) (hsem) (hrg) (hev)) ⟨(callB_of 3 hts (gG kw_324) rfl rfl rfl (hts _ (gw kw_3 rfl)) (hts _ (gw kw_321 rfl)) hd_X7_tellOne ⟨Nat.le_of_ble_eq_true rfl, Nat.le_of_ble_eq_true rfl⟩), (hts _ (gw kw_323 rfl)), (hts _ (gw ks_5 rfl))⟩ ⟨fb_std, va_recv (q := (RX7, TX7, 2)) hK hPc (ci := 7) (q0 := 0) rfl rfl, pre_std hPc hK hDc hN⟩ rfl rfl hl.1 rfl (lv_room (Nat.le_of_ble_eq_true rfl)) dX7_tell_33 ⟨Nat.le_of_ble_eq_true rfl, Nat.le_of_ble_eq_true rfl⟩) hS (fun q _ h => hFc q h) hFc (fun u9 t9 H1 locs ht hvm hw_6 hB hz1 hk1 hS => ?_)
          obtain ⟨u_7, u_8, u_9, u_10⟩ := u9
          obtain ⟨hP1, hK1, hD1⟩ := hB
          rw [ht] at hP1
          clear hK1
          try dsimp only at hw_6
          have hpd9 : PDx (dC, dI) classes A H1 [oX7 xl (nI lz) lsg, cC aC lsg 64 sg, oX4 h1 ek ef ew ep es (nI (n + cm Lt (pp + 1))) (nI sn) dn, cI aC ek 8 u_7, cI aC ef 8 u_8, cI aC ew 8 u_9, cI aC es 5 u_10] := jn_N (wr := []) hFc hk1 hP1 hD1 hP hD [0, 1, 2, 3, 4, 5, 6] [] rfl rfl (by decide) (by decide)
          have hP := hpd9.1
          have hD := hpd9.2
          clear hpd9
          generalize H1 = H at hP hS ⊢
          clear hPc hDc hFc hz1 hk1 hP1 hD1 ht hvm
          have hev2 := hw_6
          obtain ⟨x_11, e_11⟩ : ∃ y : Int32, y = (nI (scn Lt pp)) + 1 := ⟨_, rfl⟩
          refine lv_iinc (v := x_11) (lv' := [(2, Value.int x_11), (0, Value.ref xl), (1, Value.ref h1), (3, Value.int (nI (lst Lt pp))), (4, Value.int (nI pp))]) hx hb dX7_tell_36 hl (k := 2) rfl (by rw [e_11]; rfl) (by decide) rfl (fun ls hl => ?_)
          refine lv_iload hx hb dX7_tell_39 (lv_at hl 4 rfl) ?_
          refine lv_iconst (v := 1) hx hb dX7_tell_41 (by decide) ?_
          refine lv_iadd hx hb dX7_tell_42 ?_
          refine lv_topi (fun x_12 e_12 => ?_)
          refine lv_istore_n (lv' := [(3, Value.int x_12), (2, Value.int x_11), (0, Value.ref xl), (1, Value.ref h1), (4, Value.int (nI pp))]) hx hb dX7_tell_43 rfl hl (by decide) rfl (fun ls hl => ?_)
          have h9 : x_11 = nI (scn Lt (pp + 1)) := by rw [e_11, nI_1, scn_y hsem]
          subst h9
          have h9 : x_12 = nI (lst Lt (pp + 1)) := by rw [e_12, nI_1, lst_y hsem]
          subst h9
          obtain ⟨x_13, e_13⟩ : ∃ y : Int32, y = (nI pp) + 1 := ⟨_, rfl⟩
          refine lv_iinc (v := x_13) (lv' := [(4, Value.int x_13), (3, Value.int (nI (lst Lt (pp + 1)))), (2, Value.int (nI (scn Lt (pp + 1)))), (0, Value.ref xl), (1, Value.ref h1)]) hx hb dX7_tell_44 hl (k := 4) rfl (by rw [e_13]; rfl) (by decide) rfl (fun ls hl => ?_)
          have h9 : x_13 = nI (pp + 1) := by rw [e_13, nI_1]
          subst h9
          refine lv_goto (tgt := 7) hx hb dX7_tell_47 (by decide) ?_
          exact ih_7 (pp + 1) u_7 u_8 u_9 u_10 (by omega) (by omega) (hev2) _ _ _ (hP.sub [0, 1, 2, 3, 4, 5, 6] rfl) (hD.sub [0, 1, 2, 3, 4, 5, 6] (by decide) rfl) hS (lv_sub hl [3, 4, 2, 1, 0] rfl)
  exact lp_7 ((lz - 0) + 1) 0 kf ff wf stf (Nat.lt_succ_self _) (by omega) (hev0) _ _ _ (hP.sub [0, 1, 2, 3, 4, 5, 6] rfl) (hD.sub [0, 1, 2, 3, 4, 5, 6] (by decide) rfl) hS (lv_sub hl [3, 4, 2, 1, 0] rfl)

set_option maxHeartbeats 1000000 in
set_option maxRecDepth 100000 in
/-- X11_feed -/
theorem c_X11_feed (l : Launch) (dC : Nat → ClassId) (dI : Nat → Nat → Nat) (aC : Nat → ClassId) (sz : Nat) (h0 : Nat) (xp : Nat) (xtp : Nat) (xn : Nat) (xt : Nat) (xk : Nat) (xl : Nat) (xc : Nat) (xo : Nat) (xto : Nat) (xr : Nat) (xch : Nat) (ts : Int32) (ik : Int32) (st : Int32) (lsg : Nat) (lz : Nat) (Lt : Nat → Nat) (sg : Nat → Int32) (rf : Nat → Int32) (v : Int32) (hlt0 : LTR lz Lt sg) : Met l yX11_feed (wW yX11_feed cX11_feed 2 (some .int)) ({ frames := 1, cells := 0, slots := 0, locals := 21 } : Room) (va_Pc [Value.ref h0, Value.int v] (fun U => U.heap.size = sz ∧ va_P (dC, dI) classes [oX11 h0 xp xtp xn xt xk xl xc xo xto xr xch ts ik st, oX7 xl (nI lz) lsg, cC aC lsg 64 sg, cI aC xr 7 rf] U.heap ∧ va_K (dC, dI) classes (TY aC) U ∧ va_D (fun _ => True) [oX11 h0 xp xtp xn xt xk xl xc xo xto xr xch ts ik st, oX7 xl (nI lz) lsg, cC aC lsg 64 sg, cI aC xr 7 rf] ∧ NX U)) (va_Qi (fun (r : Int32) (u : (Nat → Int32) × (Nat → Int32) × Int32) => match u with | (sg2, rf2, sz2) => r = feR lz v ∧ sz2 = nI (feZ lz v) ∧ LTR (feZ lz v) (feL Lt lz v) sg2) (fun (u : (Nat → Int32) × (Nat → Int32) × Int32) (t : State) => match u with | (sg2, rf2, sz2) => va_P (dC, dI) classes [oX11 h0 xp xtp xn xt xk xl xc xo xto xr xch ts ik st, oX7 xl sz2 lsg, cC aC lsg 64 sg2, cI aC xr 7 rf2] t.heap ∧ va_K (dC, dI) classes (TY aC) t ∧ va_D (va_A [oX11 h0 xp xtp xn xt xk xl xc xo xto xr xch ts ik st, oX7 xl (nI lz) lsg, cC aC lsg 64 sg, cI aC xr 7 rf] sz) [oX11 h0 xp xtp xn xt xk xl xc xo xto xr xch ts ik st, oX7 xl sz2 lsg, cC aC lsg 64 sg2, cI aC xr 7 rf2]) (va_A [oX11 h0 xp xtp xn xt xk xl xc xo xto xr xch ts ik st, oX7 xl (nI lz) lsg, cC aC lsg 64 sg, cI aC xr 7 rf] sz)) 0 0 (va_A [oX11 h0 xp xtp xn xt xk xl xc xo xto xr xch ts ik st, oX7 xl (nI lz) lsg, cC aC lsg 64 sg, cI aC xr 7 rf] sz) := by
  refine Met.ofW (cc := cX11_feed) (maxL := 2) (ret := (some .int)) (by decide) rfl ?_
  intro p e s m args below meth c s₁ B hml hv
  obtain ⟨rfl, hsz, hP, hK, hD0, hN⟩ := hv
  have hx := B.exec
  have hb := B.bytes
  have hr := B.returns
  have hts0 := atoms_spec (ws := (wW yX11_feed cX11_feed 2 (some .int))) B.pre
  have hts : ∀ w9 ∈ lw_G, w9.before ([Value.ref h0, Value.int v] : List Value).toArray s = true := fun w9 h9 => hts0 w9 (List.mem_cons_of_mem _ h9)
  have hown : s.vm.findClass RX11 = some m.cls := findClass_of_methodNamed (x := yX11_feed) B.named
  have hlocks := B.notSynchronized
  subst hsz
  have hD := hD0.self (sz := s.heap.size)
  generalize hAe : va_A [oX11 h0 xp xtp xn xt xk xl xc xo xto xr xch ts ik st, oX7 xl (nI lz) lsg, cC aC lsg 64 sg, cI aC xr 7 rf] s.heap.size = A at hD ⊢
  have hA : ∀ q : Nat, s.heap.size ≤ q → A q := fun q h => by rw [← hAe]; exact Or.inr h
  obtain ⟨H, hHe⟩ : ∃ H : Heap, H = s.heap := ⟨_, rfl⟩
  have hS : va_S A s.heap H [] := by rw [hHe]; exact va_S.rf
  have hP : va_P (dC, dI) classes [oX11 h0 xp xtp xn xt xk xl xc xo xto xr xch ts ik st, oX7 xl (nI lz) lsg, cC aC lsg 64 sg, cI aC xr 7 rf] H := by rw [hHe]; exact hP
  have hl := lv_entry ([Value.ref h0, Value.int v]) (n := 2) (Nat.le_of_ble_eq_true rfl)
  rw [lg_entry_eq]
  generalize (lg_sl ([Value.ref h0, Value.int v]) ++ List.replicate (2 - (lg_sl ([Value.ref h0, Value.int v])).length) Slot.unset).toArray = ls at hl ⊢
  have hl : lv_has ls 2 [(0, Value.ref h0), (1, Value.int v)] := hl
  rw [← hHe]
  refine lv_iload_n hx hb dX11_feed_0 rfl (lv_at hl 1 rfl) ?_
  refine lv_if_ge (tgt := 11) hx hb dX11_feed_1 (by decide) (fun c_1 => ?_) (fun c_1 => ?_)
  · refine lv_iload_n hx hb dX11_feed_11 rfl (lv_at hl 1 rfl) ?_
    refine lv_sipush (v := 255) hx hb dX11_feed_12 (by decide) ?_
    refine lv_icmp_gt (tgt := 28) hx hb dX11_feed_15 (by decide) (fun c_2 => ?_) (fun c_2 => ?_)
    · refine lv_aload_n hx hb dX11_feed_28 rfl (lv_at hl 0 rfl) ?_
      refine lv_bipush (v := -6) hx hb dX11_feed_29 (by decide) ?_
      have hpd9 := pdf_N (cx := [oX11 h0 xp xtp xn xt xk xl xc xo xto xr xch ts ik st, cI aC xr 7 rf]) hP hD hS hA [0, 3] (by decide) rfl
      have hPc := hpd9.1
      have hDc := hpd9.2.1
      have hFc := hpd9.2.2
      clear hpd9
      refine va_calli (va_runV (As := [Value.int (-6)]) (rest := []) ⟨hx, hb, hml, hown, hts⟩ (c_X11_refuse l dC dI aC H.size h0 xp xtp xn xt xk xl xc xo xto xr xch ts ik st (-6) 6 rf (by decide) (by decide) (by decide) (by unfold vp_in; decide)) ⟨(callB_of 1 hts (gG kw_276) rfl rfl rfl (hts _ (gw kw_1 rfl)) (hts _ (gw kw_273 rfl)) hd_X11_refuse ⟨Nat.le_of_ble_eq_true rfl, Nat.le_of_ble_eq_true rfl⟩), (hts _ (gw kw_275 rfl)), (hts _ (gw ks_0 rfl))⟩ ⟨fb_std, va_recv (q := (RX11, TX11, 14)) hK hPc (ci := 11) (q0 := 0) rfl rfl, pre_std hPc hK hDc hN⟩ rfl rfl hl.1 rfl (lv_room (Nat.le_of_ble_eq_true rfl)) dX11_feed_31 ⟨Nat.le_of_ble_eq_true rfl, Nat.le_of_ble_eq_true rfl⟩) hS (fun q _ h => hFc q h) hFc (fun x_3 u9 t9 H1 locs ht hvm hw_3 hB hz1 hk1 hS => ?_)
      obtain ⟨u_4, rfl⟩ : ∃ z, z = u9 := ⟨_, rfl⟩
      obtain ⟨hP1, hK1, hD1⟩ := hB
      rw [ht] at hP1
      clear hK1
      try dsimp only at hw_3
      have hpd9 : PDx (dC, dI) classes A H1 [oX7 xl (nI lz) lsg, cC aC lsg 64 sg, oX11 h0 xp xtp xn xt xk xl xc xo xto xr xch ts ik st, cI aC xr 7 u_4] := jn_N (wr := [oX7 xl (nI lz) lsg, cC aC lsg 64 sg]) hFc hk1 hP1 hD1 hP hD [0, 3] [1, 2] rfl rfl (by decide) (by decide)
      have hP := hpd9.1
      have hD := hpd9.2
      clear hpd9
      generalize H1 = H at hP hS ⊢
      clear hPc hDc hFc hz1 hk1 hP1 hD1 ht hvm
      obtain ⟨hv9, -⟩ := hw_3
      have hpd9 := pd_N (cx := [oX11 h0 xp xtp xn xt xk xl xc xo xto xr xch ts ik st, oX7 xl (nI lz) lsg, cC aC lsg 64 sg, cI aC xr 7 u_4]) hP hD [2, 0, 1, 3] (by decide) rfl
      have hP9 := hpd9.1
      have hD9 := hpd9.2
      refine W.widen (k := 0) (n := 0) (by omega) (by omega) ?_
      exact W.iret (v := x_3) hx hb hr (fun t ht hW => ⟨⟨x_3, (sg, u_4, (nI lz)), rfl, ⟨by rw [hv9]; unfold feR; rw [if_neg (Int32.not_lt.mpr c_1), if_pos c_2], by rw [(LTR_no (v := v) hlt0 (fun q => q.2.1 c_2)).1], (LTR_no hlt0 (fun q => q.2.1 c_2)).2⟩, by rw [ht]; exact hP9, va_K.moved hW.alike hK, hD9⟩, hS.F ht⟩) hS.2.2 dX11_feed_34
    · refine lv_aload_n hx hb dX11_feed_18 rfl (lv_at hl 0 rfl) ?_
      refine va_get (D := (dC, dI)) (ci := 11) (v := Value.ref xl) (C := RX11) (T := TX11) (N := 14) hx hb hts inX11 hown hK hP 0 rfl rfl 5 (by decide) (hts _ (gw kw_231 rfl)) (fun _ h9 => h9) rfl dX11_feed_19 ?_
      have hpd9 := pdf_N (cx := [oX7 xl (nI lz) lsg]) hP hD hS hA [1] (by decide) rfl
      have hPc := hpd9.1
      have hDc := hpd9.2.1
      have hFc := hpd9.2.2
      clear hpd9
      refine va_calli (va_runV (As := []) (rest := []) ⟨hx, hb, hml, hown, hts⟩ (c_X7_isFull l dC dI aC H.size xl lsg lz Lt sg (hlt0)) ⟨(callB_of 0 hts (gG kw_280) rfl rfl rfl (hts _ (gw kw_3 rfl)) (hts _ (gw kw_277 rfl)) hd_X7_isFull ⟨Nat.le_of_ble_eq_true rfl, Nat.le_of_ble_eq_true rfl⟩), (hts _ (gw kw_278 rfl)), (hts _ (gw kw_279 rfl))⟩ ⟨fb_std, va_recv (q := (RX7, TX7, 2)) hK hPc (ci := 7) (q0 := 0) rfl rfl, pre_std hPc hK hDc hN⟩ rfl rfl hl.1 rfl (lv_room (Nat.le_of_ble_eq_true rfl)) dX11_feed_22 ⟨Nat.le_of_ble_eq_true rfl, Nat.le_of_ble_eq_true rfl⟩) hS (fun q _ h => hFc q h) hFc (fun x_5 u9 t9 H1 locs ht hvm hw_5 hB hz1 hk1 hS => ?_)
      obtain ⟨hP1, hK1, hD1⟩ := hB
      rw [ht] at hP1
      clear hK1
      try dsimp only at hw_5
      have hpd9 : PDx (dC, dI) classes A H1 [oX11 h0 xp xtp xn xt xk xl xc xo xto xr xch ts ik st, cC aC lsg 64 sg, cI aC xr 7 rf, oX7 xl (nI lz) lsg] := jn_N (wr := [oX11 h0 xp xtp xn xt xk xl xc xo xto xr xch ts ik st, cC aC lsg 64 sg, cI aC xr 7 rf]) hFc hk1 hP1 hD1 hP hD [1] [0, 2, 3] rfl rfl (by decide) (by decide)
      have hP := hpd9.1
      have hD := hpd9.2
      clear hpd9
      generalize H1 = H at hP hS ⊢
      clear hPc hDc hFc hz1 hk1 hP1 hD1 ht hvm
      have hz_22 := hw_5
      refine lv_if_eq (tgt := 35) hx hb dX11_feed_25 (by decide) (fun c_6 => ?_) (fun c_6 => ?_)
      · have hfa : feA lz v := ⟨Int32.not_lt.mpr c_1, c_2, hz_22.1 c_6⟩
        obtain ⟨x, hx1, hx2⟩ := fe_v hfa.1 hfa.2.1
        refine lv_aload_n hx hb dX11_feed_35 rfl (lv_at hl 0 rfl) ?_
        refine va_get (D := (dC, dI)) (ci := 11) (v := Value.ref xl) (C := RX11) (T := TX11) (N := 14) hx hb hts inX11 hown hK hP 0 rfl rfl 5 (by decide) (hts _ (gw kw_231 rfl)) (fun _ h9 => h9) rfl dX11_feed_36 ?_
        refine lv_iload_n hx hb dX11_feed_39 rfl (lv_at hl 1 rfl) ?_
        refine lv_i2c hx hb dX11_feed_40 rfl ?_
        refine lv_topi (fun x_7 e_7 => ?_)
        have h9 : x_7 = nI x := by rw [e_7, hx2]; exact ch_n (by omega)
        subst h9
        have hpd9 := pdf_N (cx := [oX7 xl (nI lz) lsg, cC aC lsg 64 sg]) hP hD hS hA [3, 1] (by decide) rfl
        have hPc := hpd9.1
        have hDc := hpd9.2.1
        have hFc := hpd9.2.2
        clear hpd9
        refine va_calli (va_runV (As := [Value.int (nI x)]) (rest := []) ⟨hx, hb, hml, hown, hts⟩ (c_X7_add l dC dI aC H.size xl lsg lz Lt sg (nI x) (hfa.2.2)) ⟨(callB_of 1 hts (gG kw_284) rfl rfl rfl (hts _ (gw kw_3 rfl)) (hts _ (gw kw_281 rfl)) hd_X7_add ⟨Nat.le_of_ble_eq_true rfl, Nat.le_of_ble_eq_true rfl⟩), (hts _ (gw kw_282 rfl)), (hts _ (gw kw_283 rfl))⟩ ⟨fb_std, va_recv (q := (RX7, TX7, 2)) hK hPc (ci := 7) (q0 := 0) rfl rfl, pre_std hPc hK hDc hN⟩ rfl rfl hl.1 rfl (lv_room (Nat.le_of_ble_eq_true rfl)) dX11_feed_41 ⟨Nat.le_of_ble_eq_true rfl, Nat.le_of_ble_eq_true rfl⟩) hS (fun q _ h => hFc q h) hFc (fun x_8 u9 t9 H1 locs ht hvm hw_8 hB hz1 hk1 hS => ?_)
        obtain ⟨u_9, rfl⟩ : ∃ z, z = u9 := ⟨_, rfl⟩
        obtain ⟨hP1, hK1, hD1⟩ := hB
        rw [ht] at hP1
        clear hK1
        try dsimp only at hw_8
        have hpd9 : PDx (dC, dI) classes A H1 [oX11 h0 xp xtp xn xt xk xl xc xo xto xr xch ts ik st, cI aC xr 7 rf, oX7 xl (nI (lz + 1)) lsg, cC aC lsg 64 u_9] := jn_N (wr := [oX11 h0 xp xtp xn xt xk xl xc xo xto xr xch ts ik st, cI aC xr 7 rf]) hFc hk1 hP1 hD1 hP hD [3, 1] [0, 2] rfl rfl (by decide) (by decide)
        have hP := hpd9.1
        have hD := hpd9.2
        clear hpd9
        generalize H1 = H at hP hS ⊢
        clear hPc hDc hFc hz1 hk1 hP1 hD1 ht hvm
        have hz_41 := hw_8
        have hpd9 := pd_N (cx := [oX11 h0 xp xtp xn xt xk xl xc xo xto xr xch ts ik st, oX7 xl (nI (lz + 1)) lsg, cC aC lsg 64 u_9, cI aC xr 7 rf]) hP hD [0, 2, 3, 1] (by decide) rfl
        have hP9 := hpd9.1
        have hD9 := hpd9.2
        refine W.widen (k := 0) (n := 0) (by omega) (by omega) ?_
        exact W.iret (v := x_8) hx hb hr (fun t ht hW => ⟨⟨x_8, (u_9, rf, (nI (lz + 1))), rfl, ⟨by rw [hz_41.1, (LTR_y (L := Lt) hlt0 hfa rfl).2.2], by rw [(LTR_y (L := Lt) hlt0 hfa rfl).1], (LTR_y hlt0 hfa (by rw [hz_41.2, vc_n (by omega), hx2])).2.1⟩, by rw [ht]; exact hP9, va_K.moved hW.alike hK, hD9⟩, hS.F ht⟩) hS.2.2 dX11_feed_44
      · refine lv_aload_n hx hb dX11_feed_28 rfl (lv_at hl 0 rfl) ?_
        refine lv_bipush (v := -6) hx hb dX11_feed_29 (by decide) ?_
        have hpd9 := pdf_N (cx := [oX11 h0 xp xtp xn xt xk xl xc xo xto xr xch ts ik st, cI aC xr 7 rf]) hP hD hS hA [0, 2] (by decide) rfl
        have hPc := hpd9.1
        have hDc := hpd9.2.1
        have hFc := hpd9.2.2
        clear hpd9
        refine va_calli (va_runV (As := [Value.int (-6)]) (rest := []) ⟨hx, hb, hml, hown, hts⟩ (c_X11_refuse l dC dI aC H.size h0 xp xtp xn xt xk xl xc xo xto xr xch ts ik st (-6) 6 rf (by decide) (by decide) (by decide) (by unfold vp_in; decide)) ⟨(callB_of 1 hts (gG kw_276) rfl rfl rfl (hts _ (gw kw_1 rfl)) (hts _ (gw kw_273 rfl)) hd_X11_refuse ⟨Nat.le_of_ble_eq_true rfl, Nat.le_of_ble_eq_true rfl⟩), (hts _ (gw kw_275 rfl)), (hts _ (gw ks_0 rfl))⟩ ⟨fb_std, va_recv (q := (RX11, TX11, 14)) hK hPc (ci := 11) (q0 := 0) rfl rfl, pre_std hPc hK hDc hN⟩ rfl rfl hl.1 rfl (lv_room (Nat.le_of_ble_eq_true rfl)) dX11_feed_31 ⟨Nat.le_of_ble_eq_true rfl, Nat.le_of_ble_eq_true rfl⟩) hS (fun q _ h => hFc q h) hFc (fun x_10 u9 t9 H1 locs ht hvm hw_10 hB hz1 hk1 hS => ?_)
        obtain ⟨u_11, rfl⟩ : ∃ z, z = u9 := ⟨_, rfl⟩
        obtain ⟨hP1, hK1, hD1⟩ := hB
        rw [ht] at hP1
        clear hK1
        try dsimp only at hw_10
        have hpd9 : PDx (dC, dI) classes A H1 [cC aC lsg 64 sg, oX7 xl (nI lz) lsg, oX11 h0 xp xtp xn xt xk xl xc xo xto xr xch ts ik st, cI aC xr 7 u_11] := jn_N (wr := [cC aC lsg 64 sg, oX7 xl (nI lz) lsg]) hFc hk1 hP1 hD1 hP hD [0, 2] [1, 3] rfl rfl (by decide) (by decide)
        have hP := hpd9.1
        have hD := hpd9.2
        clear hpd9
        generalize H1 = H at hP hS ⊢
        clear hPc hDc hFc hz1 hk1 hP1 hD1 ht hvm
        obtain ⟨hv9, -⟩ := hw_10
        have hpd9 := pd_N (cx := [oX11 h0 xp xtp xn xt xk xl xc xo xto xr xch ts ik st, oX7 xl (nI lz) lsg, cC aC lsg 64 sg, cI aC xr 7 u_11]) hP hD [2, 1, 0, 3] (by decide) rfl
        have hP9 := hpd9.1
        have hD9 := hpd9.2
        refine W.widen (k := 0) (n := 0) (by omega) (by omega) ?_
        exact W.iret (v := x_10) hx hb hr (fun t ht hW => ⟨⟨x_10, (sg, u_11, (nI lz)), rfl, ⟨by rw [hv9]; unfold feR; rw [if_neg (Int32.not_lt.mpr c_1), if_neg c_2, if_pos (hz_22.2 c_6)], by rw [(LTR_no (v := v) hlt0 (fun q => absurd q.2.2 (by have := hz_22.2 c_6; omega))).1], (LTR_no hlt0 (fun q => absurd q.2.2 (by have := hz_22.2 c_6; omega))).2⟩, by rw [ht]; exact hP9, va_K.moved hW.alike hK, hD9⟩, hS.F ht⟩) hS.2.2 dX11_feed_34
  · refine lv_aload_n hx hb dX11_feed_4 rfl (lv_at hl 0 rfl) ?_
    refine lv_bipush (v := -4) hx hb dX11_feed_5 (by decide) ?_
    have hpd9 := pdf_N (cx := [oX11 h0 xp xtp xn xt xk xl xc xo xto xr xch ts ik st, cI aC xr 7 rf]) hP hD hS hA [0, 3] (by decide) rfl
    have hPc := hpd9.1
    have hDc := hpd9.2.1
    have hFc := hpd9.2.2
    clear hpd9
    refine va_calli (va_runV (As := [Value.int (-4)]) (rest := []) ⟨hx, hb, hml, hown, hts⟩ (c_X11_refuse l dC dI aC H.size h0 xp xtp xn xt xk xl xc xo xto xr xch ts ik st (-4) 4 rf (by decide) (by decide) (by decide) (by unfold vp_in; decide)) ⟨(callB_of 1 hts (gG kw_276) rfl rfl rfl (hts _ (gw kw_1 rfl)) (hts _ (gw kw_273 rfl)) hd_X11_refuse ⟨Nat.le_of_ble_eq_true rfl, Nat.le_of_ble_eq_true rfl⟩), (hts _ (gw kw_275 rfl)), (hts _ (gw ks_0 rfl))⟩ ⟨fb_std, va_recv (q := (RX11, TX11, 14)) hK hPc (ci := 11) (q0 := 0) rfl rfl, pre_std hPc hK hDc hN⟩ rfl rfl hl.1 rfl (lv_room (Nat.le_of_ble_eq_true rfl)) dX11_feed_7 ⟨Nat.le_of_ble_eq_true rfl, Nat.le_of_ble_eq_true rfl⟩) hS (fun q _ h => hFc q h) hFc (fun x_12 u9 t9 H1 locs ht hvm hw_12 hB hz1 hk1 hS => ?_)
    obtain ⟨u_13, rfl⟩ : ∃ z, z = u9 := ⟨_, rfl⟩
    obtain ⟨hP1, hK1, hD1⟩ := hB
    rw [ht] at hP1
    clear hK1
    try dsimp only at hw_12
    have hpd9 : PDx (dC, dI) classes A H1 [oX7 xl (nI lz) lsg, cC aC lsg 64 sg, oX11 h0 xp xtp xn xt xk xl xc xo xto xr xch ts ik st, cI aC xr 7 u_13] := jn_N (wr := [oX7 xl (nI lz) lsg, cC aC lsg 64 sg]) hFc hk1 hP1 hD1 hP hD [0, 3] [1, 2] rfl rfl (by decide) (by decide)
    have hP := hpd9.1
    have hD := hpd9.2
    clear hpd9
    generalize H1 = H at hP hS ⊢
    clear hPc hDc hFc hz1 hk1 hP1 hD1 ht hvm
    obtain ⟨hv9, -⟩ := hw_12
    have hpd9 := pd_N (cx := [oX11 h0 xp xtp xn xt xk xl xc xo xto xr xch ts ik st, oX7 xl (nI lz) lsg, cC aC lsg 64 sg, cI aC xr 7 u_13]) hP hD [2, 0, 1, 3] (by decide) rfl
    have hP9 := hpd9.1
    have hD9 := hpd9.2
    refine W.widen (k := 0) (n := 0) (by omega) (by omega) ?_
    exact W.iret (v := x_12) hx hb hr (fun t ht hW => ⟨⟨x_12, (sg, u_13, (nI lz)), rfl, ⟨by rw [hv9]; unfold feR; rw [if_pos (Int32.not_le.mp c_1)], by rw [(LTR_no (v := v) hlt0 (fun q => q.1 (Int32.not_le.mp c_1))).1], (LTR_no hlt0 (fun q => q.1 (Int32.not_le.mp c_1))).2⟩, by rw [ht]; exact hP9, va_K.moved hW.alike hK, hD9⟩, hS.F ht⟩) hS.2.2 dX11_feed_10

set_option maxHeartbeats 1000000 in
set_option maxRecDepth 100000 in
/-- X11_beach -/
theorem c_X11_beach (l : Launch) (dC : Nat → ClassId) (dI : Nat → Nat → Nat) (aC : Nat → ClassId) (sz : Nat) (h0 : Nat) (xp : Nat) (xtp : Nat) (xn : Nat) (xt : Nat) (xk : Nat) (xl : Nat) (xc : Nat) (xo : Nat) (xto : Nat) (xr : Nat) (xch : Nat) (ts : Int32) (ik : Int32) (st : Int32) (lsg : Nat) (lz : Nat) (Lt : Nat → Nat) (sg : Nat → Int32) (ek : Nat) (ef : Nat) (ew : Nat) (ep : Nat) (es : Nat) (n : Nat) (sn : Nat) (dn : Int32) (K : Nat → Nat) (F : Nat → Nat) (W0 : Nat → Nat) (S5 : Nat → Nat) (kf : Nat → Int32) (ff : Nat → Int32) (wf : Nat → Int32) (stf : Nat → Int32) (tG : Nat) (hlt0 : LTR lz Lt sg) (hev : EVS n sn dn K F W0 S5 kf ff wf stf) : Met l yX11_beach (wW yX11_beach cX11_beach 2 (some .int)) ({ frames := 4, cells := 0, slots := 0, locals := 94 } : Room) (va_Pc [Value.ref h0] (fun U => U.heap.size = sz ∧ va_P (dC, dI) classes [oX11 h0 xp xtp xn xt xk xl xc xo xto xr xch ts ik st, oX7 xl (nI lz) lsg, cC aC lsg 64 sg, oX4 xn ek ef ew ep es (nI n) (nI sn) dn, cI aC ek 8 kf, cI aC ef 8 ff, cI aC ew 8 wf, cI aC es 5 stf] U.heap ∧ va_K (dC, dI) classes (TY aC) U ∧ va_D (fun _ => True) [oX11 h0 xp xtp xn xt xk xl xc xo xto xr xch ts ik st, oX7 xl (nI lz) lsg, cC aC lsg 64 sg, oX4 xn ek ef ew ep es (nI n) (nI sn) dn, cI aC ek 8 kf, cI aC ef 8 ff, cI aC ew 8 wf, cI aC es 5 stf] ∧ NX U ∧ va_Z "EldestSays" "GREATEST" "[I" (.ref tG) (va_A [oX11 h0 xp xtp xn xt xk xl xc xo xto xr xch ts ik st, oX7 xl (nI lz) lsg, cC aC lsg 64 sg, oX4 xn ek ef ew ep es (nI n) (nI sn) dn, cI aC ek 8 kf, cI aC ef 8 ff, cI aC ew 8 wf, cI aC es 5 stf] sz) U U.heap ∧ va_T .int tG 5 (fun j => .int (GV j)) (va_A [oX11 h0 xp xtp xn xt xk xl xc xo xto xr xch ts ik st, oX7 xl (nI lz) lsg, cC aC lsg 64 sg, oX4 xn ek ef ew ep es (nI n) (nI sn) dn, cI aC ek 8 kf, cI aC ef 8 ff, cI aC ew 8 wf, cI aC es 5 stf] sz) U U.heap)) (va_Qi (fun (r : Int32) (u : Int32 × Int32 × (Nat → Int32) × (Nat → Int32) × (Nat → Int32) × (Nat → Int32)) => match u with | (st2, n2, kf2, ff2, wf2, stf2) => r = bcR Lt lz n dn ∧ n2 = nI (bcN Lt lz n dn) ∧ (BOK Lt lz n dn → st2 = 1) ∧ (¬ BOK Lt lz n dn → st2 = st ∧ kf2 = kf ∧ ff2 = ff ∧ wf2 = wf ∧ stf2 = stf) ∧ EVS (bcN Lt lz n dn) sn dn (bcM Lt lz n dn 1 K) (bcM Lt lz n dn 2 F) (bcM Lt lz n dn 3 W0) (bcS Lt lz n dn S5) kf2 ff2 wf2 stf2) (fun (u : Int32 × Int32 × (Nat → Int32) × (Nat → Int32) × (Nat → Int32) × (Nat → Int32)) (t : State) => match u with | (st2, n2, kf2, ff2, wf2, stf2) => va_P (dC, dI) classes [oX11 h0 xp xtp xn xt xk xl xc xo xto xr xch ts ik st2, oX7 xl 0 lsg, cC aC lsg 64 sg, oX4 xn ek ef ew ep es n2 (nI sn) dn, cI aC ek 8 kf2, cI aC ef 8 ff2, cI aC ew 8 wf2, cI aC es 5 stf2] t.heap ∧ va_K (dC, dI) classes (TY aC) t ∧ va_D (va_A [oX11 h0 xp xtp xn xt xk xl xc xo xto xr xch ts ik st, oX7 xl (nI lz) lsg, cC aC lsg 64 sg, oX4 xn ek ef ew ep es (nI n) (nI sn) dn, cI aC ek 8 kf, cI aC ef 8 ff, cI aC ew 8 wf, cI aC es 5 stf] sz) [oX11 h0 xp xtp xn xt xk xl xc xo xto xr xch ts ik st2, oX7 xl 0 lsg, cC aC lsg 64 sg, oX4 xn ek ef ew ep es n2 (nI sn) dn, cI aC ek 8 kf2, cI aC ef 8 ff2, cI aC ew 8 wf2, cI aC es 5 stf2]) (va_A [oX11 h0 xp xtp xn xt xk xl xc xo xto xr xch ts ik st, oX7 xl (nI lz) lsg, cC aC lsg 64 sg, oX4 xn ek ef ew ep es (nI n) (nI sn) dn, cI aC ek 8 kf, cI aC ef 8 ff, cI aC ew 8 wf, cI aC es 5 stf] sz)) 0 0 (va_A [oX11 h0 xp xtp xn xt xk xl xc xo xto xr xch ts ik st, oX7 xl (nI lz) lsg, cC aC lsg 64 sg, oX4 xn ek ef ew ep es (nI n) (nI sn) dn, cI aC ek 8 kf, cI aC ef 8 ff, cI aC ew 8 wf, cI aC es 5 stf] sz) := by
  refine Met.ofW (cc := cX11_beach) (maxL := 2) (ret := (some .int)) (by decide) rfl ?_
  intro p e s m args below meth c s₁ B hml hv
  obtain ⟨rfl, hsz, hP, hK, hD0, hN, hZG, hTG⟩ := hv
  have hx := B.exec
  have hb := B.bytes
  have hr := B.returns
  have hts0 := atoms_spec (ws := (wW yX11_beach cX11_beach 2 (some .int))) B.pre
  have hts : ∀ w9 ∈ lw_G, w9.before ([Value.ref h0] : List Value).toArray s = true := fun w9 h9 => hts0 w9 (List.mem_cons_of_mem _ h9)
  have hown : s.vm.findClass RX11 = some m.cls := findClass_of_methodNamed (x := yX11_beach) B.named
  have hlocks := B.notSynchronized
  subst hsz
  have hD := hD0.self (sz := s.heap.size)
  generalize hAe : va_A [oX11 h0 xp xtp xn xt xk xl xc xo xto xr xch ts ik st, oX7 xl (nI lz) lsg, cC aC lsg 64 sg, oX4 xn ek ef ew ep es (nI n) (nI sn) dn, cI aC ek 8 kf, cI aC ef 8 ff, cI aC ew 8 wf, cI aC es 5 stf] s.heap.size = A at hZG hTG hD ⊢
  have hA : ∀ q : Nat, s.heap.size ≤ q → A q := fun q h => by rw [← hAe]; exact Or.inr h
  obtain ⟨H, hHe⟩ : ∃ H : Heap, H = s.heap := ⟨_, rfl⟩
  have hS : va_S A s.heap H [] := by rw [hHe]; exact va_S.rf
  have hP : va_P (dC, dI) classes [oX11 h0 xp xtp xn xt xk xl xc xo xto xr xch ts ik st, oX7 xl (nI lz) lsg, cC aC lsg 64 sg, oX4 xn ek ef ew ep es (nI n) (nI sn) dn, cI aC ek 8 kf, cI aC ef 8 ff, cI aC ew 8 wf, cI aC es 5 stf] H := by rw [hHe]; exact hP
  have hl := lv_entry ([Value.ref h0]) (n := 2) (Nat.le_of_ble_eq_true rfl)
  rw [lg_entry_eq]
  generalize (lg_sl ([Value.ref h0]) ++ List.replicate (2 - (lg_sl ([Value.ref h0])).length) Slot.unset).toArray = ls at hl ⊢
  have hl : lv_has ls 2 [(0, Value.ref h0)] := hl
  rw [← hHe]
  have hn8 := EVS_n hev
  refine lv_aload_n hx hb dX11_beach_0 rfl (lv_at hl 0 rfl) ?_
  refine va_get (D := (dC, dI)) (ci := 11) (v := Value.ref xl) (C := RX11) (T := TX11) (N := 14) hx hb hts inX11 hown hK hP 0 rfl rfl 5 (by decide) (hts _ (gw kw_231 rfl)) (fun _ h9 => h9) rfl dX11_beach_1 ?_
  refine lv_aload_n hx hb dX11_beach_4 rfl (lv_at hl 0 rfl) ?_
  refine va_get (D := (dC, dI)) (ci := 11) (v := Value.ref xn) (C := RX11) (T := TX11) (N := 14) hx hb hts inX11 hown hK hP 0 rfl rfl 2 (by decide) (hts _ (gw kw_228 rfl)) (fun _ h9 => h9) rfl dX11_beach_5 ?_
  have hpd9 := pdf_N (cx := [oX7 xl (nI lz) lsg, cC aC lsg 64 sg, oX4 xn ek ef ew ep es (nI n) (nI sn) dn]) hP hD hS hA [1, 2, 3] (by decide) rfl
  have hPc := hpd9.1
  have hDc := hpd9.2.1
  have hFc := hpd9.2.2
  clear hpd9
  refine va_calli (va_runV (As := [Value.ref xn]) (rest := []) ⟨hx, hb, hml, hown, hts⟩ (c_X7_fault l dC dI aC H.size xl lsg lz Lt sg xn ek ef ew ep es n (nI sn) dn tG (hlt0) (hn8)) ⟨(callB_of 1 hts (gG kw_292) rfl rfl rfl (hts _ (gw kw_3 rfl)) (hts _ (gw kw_289 rfl)) hd_X7_fault ⟨Nat.le_of_ble_eq_true rfl, Nat.le_of_ble_eq_true rfl⟩), (hts _ (gw kw_290 rfl)), (hts _ (gw kw_291 rfl))⟩ ⟨fun a U g mk q => by obtain ⟨q0, q1, qP, qK, qD, qN, z0, z1⟩ := q; exact ⟨q0, q1, qP, va_K.moved (u := U) (U := U.calling g mk a) (Vm.Alike.refl U.vm) qK, qD, NX.same (u := U) (U := U.calling g mk a) rfl qN, va_Z.moved (u := U) (U := U.calling g mk a) (Vm.Alike.refl U.vm) z0, va_T.moved (u := U) (U := U.calling g mk a) (Vm.Alike.refl U.vm) z1⟩, va_recv (q := (RX7, TX7, 2)) hK hPc (ci := 7) (q0 := 0) rfl rfl, fun U hU hW => ⟨rfl, by rw [hU], by rw [hU]; exact hPc, va_K.moved hW.alike hK, hDc.weaken (fun _ _ _ _ => trivial), NX.warm hW hN, by rw [hU]; exact va_Z.moved hW.alike (va_Z.narrow (va_Z.kept hZG hS.2.1) hFc), by rw [hU]; exact va_T.moved hW.alike (va_T.narrow (va_T.kept hTG hS.2.1) hFc)⟩⟩ rfl rfl hl.1 rfl (lv_room (Nat.le_of_ble_eq_true rfl)) dX11_beach_8 ⟨Nat.le_of_ble_eq_true rfl, Nat.le_of_ble_eq_true rfl⟩) hS (fun q _ h => hFc q h) hFc (fun x_1 u9 t9 H1 locs ht hvm hw_1 hB hz1 hk1 hS => ?_)
  obtain ⟨hP1, hK1, hD1⟩ := hB
  rw [ht] at hP1
  clear hK1
  try dsimp only at hw_1
  have hpd9 : PDx (dC, dI) classes A H1 [oX11 h0 xp xtp xn xt xk xl xc xo xto xr xch ts ik st, cI aC ek 8 kf, cI aC ef 8 ff, cI aC ew 8 wf, cI aC es 5 stf, oX7 xl (nI lz) lsg, cC aC lsg 64 sg, oX4 xn ek ef ew ep es (nI n) (nI sn) dn] := jn_N (wr := [oX11 h0 xp xtp xn xt xk xl xc xo xto xr xch ts ik st, cI aC ek 8 kf, cI aC ef 8 ff, cI aC ew 8 wf, cI aC es 5 stf]) hFc hk1 hP1 hD1 hP hD [1, 2, 3] [0, 4, 5, 6, 7] rfl rfl (by decide) (by decide)
  have hP := hpd9.1
  have hD := hpd9.2
  clear hpd9
  generalize H1 = H at hP hS ⊢
  clear hPc hDc hFc hz1 hk1 hP1 hD1 ht hvm
  have hz_8 := hw_1
  refine lv_istore_n (lv' := [(1, Value.int x_1), (0, Value.ref h0)]) hx hb dX11_beach_11 rfl hl (by decide) rfl (fun ls hl => ?_)
  refine lv_iload_n hx hb dX11_beach_12 rfl (lv_at hl 0 rfl) ?_
  refine lv_if_ne (tgt := 33) hx hb dX11_beach_13 (by decide) (fun c_2 => ?_) (fun c_2 => ?_)
  · have hbo : ¬ BOK Lt lz n dn := fun q => c_2 (hz_8.trans ((flR_0 hlt0.1).mpr q))
    refine lv_aload_n hx hb dX11_beach_33 rfl (lv_at hl 1 rfl) ?_
    refine va_get (D := (dC, dI)) (ci := 11) (v := Value.ref xl) (C := RX11) (T := TX11) (N := 14) hx hb hts inX11 hown hK hP 0 rfl rfl 5 (by decide) (hts _ (gw kw_231 rfl)) (fun _ h9 => h9) rfl dX11_beach_34 ?_
    have hpd9 := pdf_N (cx := [oX7 xl (nI lz) lsg]) hP hD hS hA [5] (by decide) rfl
    have hPc := hpd9.1
    have hDc := hpd9.2.1
    have hFc := hpd9.2.2
    clear hpd9
    refine va_callv (va_runV (As := []) (rest := []) ⟨hx, hb, hml, hown, hts⟩ (c_X7_forget l dC dI aC H.size xl lsg lz Lt sg ) ⟨(callB_of 0 hts (gG kw_332) rfl rfl rfl (hts _ (gw kw_3 rfl)) (hts _ (gw kw_329 rfl)) hd_X7_forget ⟨Nat.le_of_ble_eq_true rfl, Nat.le_of_ble_eq_true rfl⟩), (hts _ (gw kw_330 rfl)), (hts _ (gw kw_331 rfl))⟩ ⟨fb_std, va_recv (q := (RX7, TX7, 2)) hK hPc (ci := 7) (q0 := 0) rfl rfl, pre_std hPc hK hDc hN⟩ rfl rfl hl.1 rfl (lv_room (Nat.le_of_ble_eq_true rfl)) dX11_beach_37 ⟨Nat.le_of_ble_eq_true rfl, Nat.le_of_ble_eq_true rfl⟩) hS (fun q _ h => hFc q h) hFc (fun u9 t9 H1 locs ht hvm hw_3 hB hz1 hk1 hS => ?_)
    obtain ⟨hP1, hK1, hD1⟩ := hB
    rw [ht] at hP1
    clear hK1
    try dsimp only at hw_3
    have hpd9 : PDx (dC, dI) classes A H1 [oX11 h0 xp xtp xn xt xk xl xc xo xto xr xch ts ik st, cI aC ek 8 kf, cI aC ef 8 ff, cI aC ew 8 wf, cI aC es 5 stf, cC aC lsg 64 sg, oX4 xn ek ef ew ep es (nI n) (nI sn) dn, oX7 xl 0 lsg] := jn_N (wr := [oX11 h0 xp xtp xn xt xk xl xc xo xto xr xch ts ik st, cI aC ek 8 kf, cI aC ef 8 ff, cI aC ew 8 wf, cI aC es 5 stf, cC aC lsg 64 sg, oX4 xn ek ef ew ep es (nI n) (nI sn) dn]) hFc hk1 hP1 hD1 hP hD [5] [0, 1, 2, 3, 4, 6, 7] rfl rfl (by decide) (by decide)
    have hP := hpd9.1
    have hD := hpd9.2
    clear hpd9
    generalize H1 = H at hP hS ⊢
    clear hPc hDc hFc hz1 hk1 hP1 hD1 ht hvm
    refine lv_iload_n hx hb dX11_beach_40 rfl (lv_at hl 0 rfl) ?_
    have hpd9 := pd_N (cx := [oX11 h0 xp xtp xn xt xk xl xc xo xto xr xch ts ik st, oX7 xl 0 lsg, cC aC lsg 64 sg, oX4 xn ek ef ew ep es (nI n) (nI sn) dn, cI aC ek 8 kf, cI aC ef 8 ff, cI aC ew 8 wf, cI aC es 5 stf]) hP hD [0, 7, 5, 6, 1, 2, 3, 4] (by decide) rfl
    have hP9 := hpd9.1
    have hD9 := hpd9.2
    refine W.widen (k := 0) (n := 0) (by omega) (by omega) ?_
    exact W.iret (v := x_1) hx hb hr (fun t ht hW => ⟨⟨x_1, (st, (nI n), kf, ff, wf, stf), rfl, ⟨by unfold bcR; rw [if_neg hbo]; exact hz_8, by unfold bcN; rw [if_neg hbo], fun q => absurd q hbo, fun _ => ⟨rfl, rfl, rfl, rfl, rfl⟩, by unfold bcN bcM bcS; rw [if_neg hbo, if_neg hbo, if_neg hbo, if_neg hbo, if_neg hbo]; exact hev⟩, by rw [ht]; exact hP9, va_K.moved hW.alike hK, hD9⟩, hS.F ht⟩) hS.2.2 dX11_beach_41
  · have hbo : BOK Lt lz n dn := (flR_0 hlt0.1).mp (hz_8.symm.trans c_2)
    refine lv_aload_n hx hb dX11_beach_16 rfl (lv_at hl 1 rfl) ?_
    refine va_get (D := (dC, dI)) (ci := 11) (v := Value.ref xl) (C := RX11) (T := TX11) (N := 14) hx hb hts inX11 hown hK hP 0 rfl rfl 5 (by decide) (hts _ (gw kw_231 rfl)) (fun _ h9 => h9) rfl dX11_beach_17 ?_
    refine lv_aload_n hx hb dX11_beach_20 rfl (lv_at hl 1 rfl) ?_
    refine va_get (D := (dC, dI)) (ci := 11) (v := Value.ref xn) (C := RX11) (T := TX11) (N := 14) hx hb hts inX11 hown hK hP 0 rfl rfl 2 (by decide) (hts _ (gw kw_228 rfl)) (fun _ h9 => h9) rfl dX11_beach_21 ?_
    have hpd9 := pdf_N (cx := [oX7 xl (nI lz) lsg, cC aC lsg 64 sg, oX4 xn ek ef ew ep es (nI n) (nI sn) dn, cI aC ek 8 kf, cI aC ef 8 ff, cI aC ew 8 wf, cI aC es 5 stf]) hP hD hS hA [5, 6, 7, 1, 2, 3, 4] (by decide) rfl
    have hPc := hpd9.1
    have hDc := hpd9.2.1
    have hFc := hpd9.2.2
    clear hpd9
    refine va_calli (va_runV (As := [Value.ref xn]) (rest := []) ⟨hx, hb, hml, hown, hts⟩ (c_X7_tell l dC dI aC H.size xl lsg lz Lt sg xn ek ef ew ep es n sn dn K F W0 S5 kf ff wf stf (hlt0) (by rw [hbo.1.1]; decide) (hbo.2) (hev)) ⟨(callB_of 1 hts (gG kw_320) rfl rfl rfl (hts _ (gw kw_3 rfl)) (hts _ (gw kw_317 rfl)) hd_X7_tell ⟨Nat.le_of_ble_eq_true rfl, Nat.le_of_ble_eq_true rfl⟩), (hts _ (gw kw_318 rfl)), (hts _ (gw kw_319 rfl))⟩ ⟨fb_std, va_recv (q := (RX7, TX7, 2)) hK hPc (ci := 7) (q0 := 0) rfl rfl, pre_std hPc hK hDc hN⟩ rfl rfl hl.1 rfl (lv_room (Nat.le_of_ble_eq_true rfl)) dX11_beach_24 ⟨Nat.le_of_ble_eq_true rfl, Nat.le_of_ble_eq_true rfl⟩) hS (fun q _ h => hFc q h) hFc (fun x_4 u9 t9 H1 locs ht hvm hw_4 hB hz1 hk1 hS => ?_)
    obtain ⟨u_5, u_6, u_7, u_8⟩ := u9
    obtain ⟨hP1, hK1, hD1⟩ := hB
    rw [ht] at hP1
    clear hK1
    try dsimp only at hw_4
    have hpd9 : PDx (dC, dI) classes A H1 [oX11 h0 xp xtp xn xt xk xl xc xo xto xr xch ts ik st, oX7 xl (nI lz) lsg, cC aC lsg 64 sg, oX4 xn ek ef ew ep es (nI (n + cm Lt lz)) (nI sn) dn, cI aC ek 8 u_5, cI aC ef 8 u_6, cI aC ew 8 u_7, cI aC es 5 u_8] := jn_N (wr := [oX11 h0 xp xtp xn xt xk xl xc xo xto xr xch ts ik st]) hFc hk1 hP1 hD1 hP hD [5, 6, 7, 1, 2, 3, 4] [0] rfl rfl (by decide) (by decide)
    have hP := hpd9.1
    have hD := hpd9.2
    clear hpd9
    generalize H1 = H at hP hS ⊢
    clear hPc hDc hFc hz1 hk1 hP1 hD1 ht hvm
    have hz_24 := hw_4
    refine lv_istore_n (lv' := [(1, Value.int x_4), (0, Value.ref h0)]) hx hb dX11_beach_27 rfl hl (by decide) rfl (fun ls hl => ?_)
    refine lv_aload_n hx hb dX11_beach_28 rfl (lv_at hl 1 rfl) ?_
    refine lv_iconst (v := 1) hx hb dX11_beach_29 (by decide) ?_
    refine va_put (D := (dC, dI)) (ci := 11) (v := Value.int 1) (ty := .boolean) (C := RX11) (T := TX11) (N := 14) hx hb hts inX11 tyX11 tyX11_ok nmX11 hown hK hP hD hS 0 rfl rfl 13 (by decide) (hts _ (gw kw_239 rfl)) (fun _ h9 => h9) rfl (by decide +kernel) rfl rfl (Nat.le_of_ble_eq_true rfl) dX11_beach_30 (fun H locs hP hD hS => ?_)
    have hpd9 : PDx (dC, dI) classes A H [oX11 h0 xp xtp xn xt xk xl xc xo xto xr xch ts ik 1, oX7 xl (nI lz) lsg, cC aC lsg 64 sg, oX4 xn ek ef ew ep es (nI (n + cm Lt lz)) (nI sn) dn, cI aC ek 8 u_5, cI aC ef 8 u_6, cI aC ew 8 u_7, cI aC es 5 u_8] := ⟨hP, hD⟩
    have hP := hpd9.1
    have hD := hpd9.2
    clear hpd9
    refine lv_aload_n hx hb dX11_beach_33 rfl (lv_at hl 1 rfl) ?_
    refine va_get (D := (dC, dI)) (ci := 11) (v := Value.ref xl) (C := RX11) (T := TX11) (N := 14) hx hb hts inX11 hown hK hP 0 rfl rfl 5 (by decide) (hts _ (gw kw_231 rfl)) (fun _ h9 => h9) rfl dX11_beach_34 ?_
    have hpd9 := pdf_N (cx := [oX7 xl (nI lz) lsg]) hP hD hS hA [1] (by decide) rfl
    have hPc := hpd9.1
    have hDc := hpd9.2.1
    have hFc := hpd9.2.2
    clear hpd9
    refine va_callv (va_runV (As := []) (rest := []) ⟨hx, hb, hml, hown, hts⟩ (c_X7_forget l dC dI aC H.size xl lsg lz Lt sg ) ⟨(callB_of 0 hts (gG kw_332) rfl rfl rfl (hts _ (gw kw_3 rfl)) (hts _ (gw kw_329 rfl)) hd_X7_forget ⟨Nat.le_of_ble_eq_true rfl, Nat.le_of_ble_eq_true rfl⟩), (hts _ (gw kw_330 rfl)), (hts _ (gw kw_331 rfl))⟩ ⟨fb_std, va_recv (q := (RX7, TX7, 2)) hK hPc (ci := 7) (q0 := 0) rfl rfl, pre_std hPc hK hDc hN⟩ rfl rfl hl.1 rfl (lv_room (Nat.le_of_ble_eq_true rfl)) dX11_beach_37 ⟨Nat.le_of_ble_eq_true rfl, Nat.le_of_ble_eq_true rfl⟩) hS (fun q _ h => hFc q h) hFc (fun u9 t9 H1 locs ht hvm hw_9 hB hz1 hk1 hS => ?_)
    obtain ⟨hP1, hK1, hD1⟩ := hB
    rw [ht] at hP1
    clear hK1
    try dsimp only at hw_9
    have hpd9 : PDx (dC, dI) classes A H1 [oX11 h0 xp xtp xn xt xk xl xc xo xto xr xch ts ik 1, cC aC lsg 64 sg, oX4 xn ek ef ew ep es (nI (n + cm Lt lz)) (nI sn) dn, cI aC ek 8 u_5, cI aC ef 8 u_6, cI aC ew 8 u_7, cI aC es 5 u_8, oX7 xl 0 lsg] := jn_N (wr := [oX11 h0 xp xtp xn xt xk xl xc xo xto xr xch ts ik 1, cC aC lsg 64 sg, oX4 xn ek ef ew ep es (nI (n + cm Lt lz)) (nI sn) dn, cI aC ek 8 u_5, cI aC ef 8 u_6, cI aC ew 8 u_7, cI aC es 5 u_8]) hFc hk1 hP1 hD1 hP hD [1] [0, 2, 3, 4, 5, 6, 7] rfl rfl (by decide) (by decide)
    have hP := hpd9.1
    have hD := hpd9.2
    clear hpd9
    generalize H1 = H at hP hS ⊢
    clear hPc hDc hFc hz1 hk1 hP1 hD1 ht hvm
    refine lv_iload_n hx hb dX11_beach_40 rfl (lv_at hl 0 rfl) ?_
    have hpd9 := pd_N (cx := [oX11 h0 xp xtp xn xt xk xl xc xo xto xr xch ts ik 1, oX7 xl 0 lsg, cC aC lsg 64 sg, oX4 xn ek ef ew ep es (nI (n + cm Lt lz)) (nI sn) dn, cI aC ek 8 u_5, cI aC ef 8 u_6, cI aC ew 8 u_7, cI aC es 5 u_8]) hP hD [0, 7, 1, 2, 3, 4, 5, 6] (by decide) rfl
    have hP9 := hpd9.1
    have hD9 := hpd9.2
    refine W.widen (k := 0) (n := 0) (by omega) (by omega) ?_
    exact W.iret (v := x_4) hx hb hr (fun t ht hW => ⟨⟨x_4, (1, (nI (n + cm Lt lz)), u_5, u_6, u_7, u_8), rfl, ⟨by unfold bcR; rw [if_pos hbo]; exact hz_24.1, by unfold bcN; rw [if_pos hbo], fun _ => rfl, fun q => absurd hbo q, by unfold bcN bcM bcS; rw [if_pos hbo, if_pos hbo, if_pos hbo, if_pos hbo, if_pos hbo]; exact hz_24.2⟩, by rw [ht]; exact hP9, va_K.moved hW.alike hK, hD9⟩, hS.F ht⟩) hS.2.2 dX11_beach_41

end

section
/-! 84.refl -/
/-- the reference's reading -/
theorem dig_d {x : Nat} (h : dig x) : 48 ≤ x ∧ x ≤ 57 := h
def nxt (L : Nat → Nat) (lz a : Nat) : Int32 := if a < lz then nI (L a) else -1
def dgc (L : Nat → Nat) (lz j : Nat) : Prop := j < lz ∧ dig (L j)
def rdv (L : Nat → Nat) (a : Nat) : Nat → Nat
  | 0 => 0
  | k + 1 => 10 * rdv L a k + (L (a + k) - 48)
theorem nx_dig {L : Nat → Nat} {lz a : Nat} {x r : Int32} (hL : ∀ k, k < lz → L k ≤ 255) (hx : x = nxt L lz a) (hr : r = if x < 48 then 0 else if 57 < x then 0 else 1) : (r = 0 → ¬ dgc L lz a) ∧ (¬ r = 0 → dgc L lz a) := by
  by_cases h : a < lz
  · unfold nxt at hx
    rw [if_pos h] at hx
    subst hx
    obtain ⟨d1, d2⟩ := dig_b (hL a h) hr
    exact ⟨fun q z => d1 q z.2, fun q => ⟨h, d2 q⟩⟩
  · unfold nxt at hx
    rw [if_neg h] at hx
    rw [hx, if_pos (by decide)] at hr
    exact ⟨fun _ z => h z.1, fun q => absurd hr q⟩
theorem nx_k {L : Nat → Nat} {lz a k : Nat} {x : Int32} (hL : ∀ k, k < lz → L k ≤ 255) (hk : k ≤ 255) (hx : x = nxt L lz a) : x = nI k ↔ a < lz ∧ L a = k := by
  unfold nxt at hx
  by_cases h : a < lz
  · rw [if_pos h] at hx
    rw [hx, nI_b0 (hL a h) hk]
    exact ⟨fun q => ⟨h, q⟩, fun q => q.2⟩
  · rw [if_neg h] at hx
    refine ⟨fun q => ?_, fun q => absurd q.1 h⟩
    rw [hx] at q
    exact absurd (show nI k < 0 by rw [← q]; decide) (nI_pos (by omega))
theorem rdv_s {L : Nat → Nat} {a k : Nat} (h : dig (L (a + k))) : 10 * nI (rdv L a k) + nI (L (a + k)) - 48 = nI (rdv L a (k + 1)) := by
  rw [show (10 : Int32) = nI 10 from rfl, pk_mul, nI_add, show (48 : Int32) = nI 48 from rfl, pk_sub (by have := h.1; omega)]
  congr 1
  show _ = 10 * rdv L a k + (L (a + k) - 48)
  have := h.1
  omega
def TLD (L : Nat → Nat) (s e k : Nat) (td : Nat → Int32) : Prop := ((L s = 109 ∨ L s = 108) → ∀ i, i < 3 → td (3 * k + i) = nI (L (s + 1 + i) - 48)) ∧ (L s = 99 → td (3 * k) = nI (lC L s e))
theorem fps_at {L : Nat → Nat} {q : Nat} : ∀ (k p : Nat), p ≤ q → q ≤ p + k → lrn L q ≠ 9 → (q < p + k → lrn L (q + 1) = 9) → fps L p k = q
  | 0, p, h1, h2, _, _ => by show p = q; omega
  | k + 1, p, h1, h2, h3, h4 => by
    show (if lrn L (p + 1) = 9 then p else fps L (p + 1) k) = q
    by_cases e : p = q
    · subst e; rw [if_pos (h4 (by omega))]
    · rw [if_neg (lrn_le h3 (by omega))]
      exact fps_at k (p + 1) (by omega) (by omega) h3 (fun z => h4 (by omega))
def FLP (L : Nat → Nat) (lz q : Nat) : Prop := q = fps L 0 lz ∧ ¬ (lrn L lz = 0 ∧ 0 < lz)
theorem flp_of {L : Nat → Nat} {lz q t : Nat} (hq : q ≤ lz) (ht : lrn L q = t) (h9 : t ≠ 9) (hb : q < lz → lsp t (L q) = 9) (he : q = lz → t ≠ 0 ∨ lz = 0) : FLP L lz q := by
  have hs : q < lz → lrn L (q + 1) = 9 := fun z => by show lsp (lrn L q) (L q) = 9; rw [ht]; exact hb z
  refine ⟨(fps_at lz 0 (by omega) (by omega) (by rw [ht]; exact h9) (fun z => hs (by omega))).symm, fun z => ?_⟩
  rcases Nat.lt_or_ge q lz with h | h
  · exact lrn_le (p := q + 1) (z := lz) (by rw [z.1]; decide) (by omega) (hs h)
  · have e : q = lz := by omega
    rcases he e with r | r
    · rw [e, z.1] at ht; exact r ht.symm
    · omega
theorem lrn_s {L : Nat → Nat} {p t : Nat} (h : lrn L p = t) : lrn L (p + 1) = lsp t (L p) := by
  show lsp (lrn L p) (L p) = _; rw [h]
theorem ndg {L : Nat → Nat} {lz q : Nat} (h : ¬ dgc L lz q) (hq : q < lz) : ¬ (48 ≤ L q ∧ L q ≤ 57) := fun z => h ⟨hq, z⟩
/-- the statements that were read -/
def PRS (L : Nat → Nat) (lz a k : Nat) (lf laf td : Nat → Int32) : Prop := a ≤ lz ∧ lrn L a = 0 ∧ k = scn L a ∧ 3 * k ≤ a ∧ (k = 0 → a = 0) ∧ ∀ e, e < a → L e = 59 → scn L e < k ∧ lf (scn L e) = nI (L (lst L e)) ∧ laf (scn L e) = nI (lst L e) ∧ TLD L (lst L e) e (scn L e) td
theorem PRS_0 {L : Nat → Nat} {lz : Nat} {lf laf td : Nat → Int32} : PRS L lz 0 0 lf laf td := ⟨by omega, rfl, rfl, by omega, fun _ => rfl, fun e he => by omega⟩
theorem nose {L : Nat → Nat} {n : Nat} {dn : Int32} {lz p : Nat} : ∀ d, (∀ j, p ≤ j → j < p + d → ¬ L j = 59) → scn L (p + d) = scn L p ∧ lst L (p + d) = lst L p ∧ cm L (p + d) = cm L p ∧ (p + d ≤ lz → fwr L n dn p (lz - p) = fwr L n dn (p + d) (lz - (p + d)))
  | 0, _ => ⟨rfl, rfl, rfl, fun _ => rfl⟩
  | d + 1, h => by
    obtain ⟨a1, a2, a3, a4⟩ := nose (n := n) (dn := dn) (lz := lz) d (fun j h1 h2 => h j h1 (by omega))
    have hn := h (p + d) (by omega) (by omega)
    refine ⟨(scn_no hn).trans a1, (lst_no hn).trans a2, (cm_no (fun z => hn z.1)).trans a3, fun hz => ?_⟩
    rw [a4 (by omega), fwr_s (by omega), if_neg (fun z => hn z.1)]
    rfl
theorem nosE {L : Nat → Nat} {n sn : Nat} {dn : Int32} {K F W S5 : Nat → Nat} {kf ff wf stf : Nat → Int32} {p : Nat} (h : EVT L p n sn dn K F W S5 kf ff wf stf) : ∀ d, (∀ j, p ≤ j → j < p + d → ¬ L j = 59) → EVT L (p + d) n sn dn K F W S5 kf ff wf stf
  | 0, _ => h
  | d + 1, q => EVT_no (nosE h d (fun j h1 h2 => q j h1 (by omega))) (q (p + d) (by omega) (by omega))
theorem lst_0 {L : Nat → Nat} {p : Nat} (h : lrn L p = 0) : lst L p = p := by
  have := RNV_r (L := L) p (by rw [h]; decide)
  rw [h] at this
  unfold RNV at this
  omega
theorem fse (L : Nat → Nat) (p : Nat) : ∀ d, (∃ e, p ≤ e ∧ e < p + d ∧ L e = 59 ∧ ∀ j, p ≤ j → j < e → ¬ L j = 59) ∨ ∀ j, p ≤ j → j < p + d → ¬ L j = 59
  | 0 => Or.inr (fun j h1 h2 => by omega)
  | d + 1 => by
    rcases fse L p d with ⟨e, h1, h2, h3, h4⟩ | h
    · exact Or.inl ⟨e, h1, by omega, h3, h4⟩
    · by_cases q : L (p + d) = 59
      · exact Or.inl ⟨p + d, by omega, by omega, q, fun j h1 h2 => h j h1 (by omega)⟩
      · refine Or.inr (fun j h1 h2 => ?_)
        by_cases e : j = p + d
        · rw [e]; exact q
        · exact h j h1 (by omega)
theorem nxe {L : Nat → Nat} {lz p : Nat} (hz : lrn L lz = 0) (hp : lrn L p = 0) (h : p < lz) : ∃ e, p ≤ e ∧ e < lz ∧ L e = 59 ∧ ∀ j, p ≤ j → j < e → ¬ L j = 59 := by
  rcases fse L p (lz - p) with ⟨e, h1, h2, h3, h4⟩ | q
  · exact ⟨e, h1, by omega, h3, h4⟩
  · exfalso
    have h2 := (nose (L := L) (n := 0) (dn := 0) (lz := 0) (p := p) (lz - p) q).2.1
    rw [show p + (lz - p) = lz by omega, lst_0 hz, lst_0 hp] at h2
    omega
theorem scn_mono {L : Nat → Nat} {p : Nat} : ∀ d, scn L p ≤ scn L (p + d)
  | 0 => Nat.le_refl _
  | d + 1 => by
    have h := scn_mono (L := L) (p := p) d
    show scn L p ≤ scn L (p + d) + _
    omega
theorem lrn_se {L : Nat → Nat} {z e : Nat} (h : lrn L z ≠ 9) (he : e < z) (hs : L e = 59) : lrn L (e + 1) = 0 := by
  have h9 := lrn_le (p := e + 1) h (by omega)
  have hr := RNV_r (L := L) (e + 1) h9
  rw [lst_y hs] at hr
  unfold RNV at hr
  omega
theorem no_in {L : Nat → Nat} {s e : Nat} (h : STM L s e) : ∀ j, s ≤ j → j < e → ¬ L j = 59 := by
  intro j h1 h2
  have hd : ∀ x, dig x → ¬ x = 59 := fun x hx => (dg_ne hx).1
  rcases h with ⟨a, b, d1, d2, d3⟩ | ⟨a, ⟨b, d1⟩ | ⟨b, d1, d2⟩⟩
  · by_cases e0 : j = s
    · rw [e0]; omega
    · by_cases e1 : j = s + 1
      · rw [e1]; exact hd _ d1
      · by_cases e2 : j = s + 2
        · rw [e2]; exact hd _ d2
        · rw [show j = s + 3 by omega]; exact hd _ d3
  · by_cases e0 : j = s
    · rw [e0]; omega
    · rw [show j = s + 1 by omega]; exact hd _ d1
  · by_cases e0 : j = s
    · rw [e0]; omega
    · by_cases e1 : j = s + 1
      · rw [e1]; exact hd _ d1
      · rw [show j = s + 2 by omega]; exact hd _ d2
theorem lrn_st {L : Nat → Nat} {s e : Nat} (h0 : lrn L s = 0) (h : STM L s e) (hs : L e = 59) : lrn L (e + 1) = 0 := by
  rcases h with ⟨a, b, d1, d2, d3⟩ | ⟨a, ⟨b, d1⟩ | ⟨b, d1, d2⟩⟩
  · subst b
    have r1 : lrn L (s + 1) = 1 := by rw [lrn_s h0, lsp_0, if_pos a]
    have r2 : lrn L (s + 2) = 2 := by rw [lrn_s r1, lsp_1, if_pos (dig_d d1)]
    have r3 : lrn L (s + 3) = 3 := by rw [lrn_s r2, lsp_2, if_pos (dig_d d2)]
    have r4 : lrn L (s + 4) = 4 := by rw [lrn_s r3, lsp_3, if_pos (dig_d d3)]
    rw [lrn_s r4, lsp_4, if_pos hs]
  · subst b
    have r1 : lrn L (s + 1) = 5 := by rw [lrn_s h0, lsp_0, if_neg (by omega), if_pos a]
    have r2 : lrn L (s + 2) = 6 := by rw [lrn_s r1, lsp_5, if_pos (dig_d d1)]
    rw [lrn_s r2, lsp_6, if_neg (by omega), if_pos hs]
  · subst b
    have r1 : lrn L (s + 1) = 5 := by rw [lrn_s h0, lsp_0, if_neg (by omega), if_pos a]
    have r2 : lrn L (s + 2) = 6 := by rw [lrn_s r1, lsp_5, if_pos (dig_d d1)]
    have r3 : lrn L (s + 3) = 4 := by rw [lrn_s r2, lsp_6, if_pos (dig_d d2)]
    rw [lrn_s r3, lsp_4, if_pos hs]
theorem PRS_s {L : Nat → Nat} {lz a k e : Nat} {lf laf td lf2 laf2 td2 : Nat → Int32} (h : PRS L lz a k lf laf td) (hst : STM L a e) (he : e < lz) (hs : L e = 59) (h1 : lf2 = upd lf k (nI (L a))) (h2 : laf2 = upd laf k (nI a)) (h3 : TLD L a e k td2) (h4 : ∀ j, j < 3 * k → td2 j = td j) : PRS L lz (e + 1) (k + 1) lf2 laf2 td2 := by
  obtain ⟨a1, a2, a3, a4, a5, a6⟩ := h
  have hse := (STM_k hst).2
  have hno := no_in hst
  have hee : e ≥ a + 2 := by
    rcases hst with q | ⟨-, q | q⟩ <;> omega
  obtain ⟨c1, c2, -, -⟩ := nose (L := L) (n := 0) (dn := 0) (lz := 0) (p := a) (e - a) (fun j q1 q2 => hno j q1 (by omega))
  rw [show a + (e - a) = e by omega] at c1 c2
  rw [lst_0 a2] at c2
  refine ⟨by omega, lrn_st a2 hst hs, by rw [scn_y hs, c1, a3], by omega, fun z => by omega, fun j hj hj9 => ?_⟩
  by_cases q : j = e
  · subst q
    rw [c1, c2, ← a3, h1, h2, pk_us, pk_us]
    exact ⟨by omega, rfl, rfl, h3⟩
  · have hja : j < a := Nat.lt_of_not_le fun z => hno j z (by omega) hj9
    obtain ⟨b1, b2, b3, b4⟩ := a6 j hja hj9
    rw [h1, h2, pk_un (by omega), pk_un (by omega)]
    refine ⟨by omega, b2, b3, fun z i hi => ?_, fun z => ?_⟩
    · rw [h4 _ (by omega)]; exact b4.1 z i hi
    · rw [h4 _ (by omega)]; exact b4.2 z

end

