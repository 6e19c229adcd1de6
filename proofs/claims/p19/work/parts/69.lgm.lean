def upd_ (f : Nat → Nat) (k v : Nat) (u : Nat) : Nat := if u = k then v else f u
theorem CB_s {k p0 w0 : Nat} {up uw : Nat → Nat} {u0 v0 u2 v2 : Nat → Int32} (h : ∀ u, u < k → (u0 u = nI (up u) ∧ v0 u = nI (uw u)) ∧ uw u ≤ 72 ∧ up u ≤ 1000) (ha : u2 k = nI p0 ∧ (∀ q, q ≠ k → u2 q = u0 q) ∧ v2 k = nI (if 0 < p0 then w0 else 0) ∧ ∀ q, q ≠ k → v2 q = v0 q) (hp : p0 ≤ 1000) (hw : w0 ≤ 72) :
    ∀ u, u < k + 1 → (u2 u = nI (upd_ up k p0 u) ∧ v2 u = nI (upd_ uw k (if 0 < p0 then w0 else 0) u)) ∧ upd_ uw k (if 0 < p0 then w0 else 0) u ≤ 72 ∧ upd_ up k p0 u ≤ 1000 := by
  intro u hu
  unfold upd_
  by_cases e : u = k
  · subst e
    rw [if_pos rfl, if_pos rfl]
    refine ⟨⟨ha.1, ha.2.2.1⟩, ?_, hp⟩
    split <;> omega
  · rw [if_neg e, if_neg e, ha.2.1 u e, ha.2.2.2 u e]
    exact h u (by omega)
theorem two_sh : ∀ i, i < 8 → (2 : Int32) <<< (nI i &&& 31) = (1 : Int32) <<< (nI (i + 1) &&& 31) := by decide +kernel
theorem LG_ex {n sn : Nat} {v a b c y : Int32} (hs : sn < n) (hn : n ≤ 8) (hv : ¬ v = 0) (hz : v &&& y = 0) (ha : a = (1 : Int32) <<< (nI n &&& 31)) (hb : b = (2 : Int32) <<< (nI sn &&& 31)) (hc : c = a - b) (hy : y = c ^^^ (-1)) : ∃ b, sn < b ∧ b < n ∧ bt v b = true := by
  by_cases q : ∃ b, b < 32 ∧ bt v b = true
  · obtain ⟨k, k1, k2⟩ := q
    have h1 : bt c k = decide (sn + 1 ≤ k ∧ k < n) := by
      rw [hc, ha, hb, two_sh sn (by omega)]
      exact left_bits n (by omega) (sn + 1) (by omega) k k1
    have h2 : bt (v &&& y) k = false := by rw [hz]; exact b_0 k
    rw [b_and, k2, Bool.true_and, hy, b_not k1, h1] at h2
    have h3 : sn + 1 ≤ k ∧ k < n := by
      by_cases e : sn + 1 ≤ k ∧ k < n
      · exact e
      · rw [decide_eq_false e] at h2; exact absurd h2 (by decide)
    exact ⟨k, by omega, h3.2, k2⟩
  · exfalso
    exact hv (b_ext (fun k hk => by
      rw [b_0]
      exact Bool.eq_false_iff.mpr fun z => q ⟨k, hk, z⟩))

/-- a league: coins and weight that can be had of the younger men who are not of it -/
def RC (P W : Nat → Nat) (v : Int32) (i : Nat) : Nat → Nat → Nat → Prop
  | 0, A, B => A = 0 ∧ B = 0
  | k + 1, A, B => (bt v (i + 1 + k) = true ∧ RC P W v i k A B) ∨ (bt v (i + 1 + k) = false ∧ ((0 < P (i + 1 + k) ∧ (RC P W v i k A B ∨ ∃ A' B', A = A' + P (i + 1 + k) ∧ B = B' + W (i + 1 + k) ∧ RC P W v i k A' B')) ∨ (P (i + 1 + k) = 0 ∧ ∃ B', B = B' + W (i + 1 + k) ∧ RC P W v i k A B')))
def lgS (f : Nat → Nat) (v : Int32) (i k : Nat) : Nat := sumr (fun j => if bt v j = true then f j else 0) (i + 1) k
def RLG (P W : Nat → Nat) (v : Int32) (i y A B : Nat) : Prop := ∃ A' B', RC P W v i y A' B' ∧ ((0 < lgS P v i y ∧ ((A = A' ∧ B = B') ∨ (A = A' + lgS P v i y ∧ B = B' + lgS W v i y))) ∨ (lgS P v i y = 0 ∧ A = A' ∧ B = B' + lgS W v i y))
def LGE (n : Nat) (W : Nat → Nat) (law : Int32) (cq i : Nat) (P : Nat → Nat) (v : Int32) : Prop := ∃ A B, RLG P W v i (n - 1 - i) A B ∧ nd law (sumr W i (n - i)) ≤ W i + B ∧ A ≤ cq
theorem lgS_s {f : Nat → Nat} {v : Int32} {i k : Nat} : lgS f v i (k + 1) = lgS f v i k + (if bt v (i + 1 + k) = true then f (i + 1 + k) else 0) := rfl
/-- the class's masks of units -/
def UM (k f0 : Nat) (up uw : Nat → Nat) (A B : Nat) : Prop := ∃ z, z < 2 ^ k ∧ cst up z = A ∧ f0 + cst uw z = B
theorem cst_upd {f : Nat → Nat} {k v z : Nat} (hz : z < 2 ^ k) : cst (upd_ f k v) z = cst f z := by
  unfold cst
  refine sumr_congr (fun u _ _ => ?_)
  by_cases e : u = k
  · subst e; rw [Nat.testBit_lt_two_pow hz]; simp
  · unfold upd_; rw [if_neg e]
theorem UM_0 {up uw : Nat → Nat} {A B : Nat} : UM 0 0 up uw A B ↔ A = 0 ∧ B = 0 := by
  constructor
  · rintro ⟨z, h1, h2, h3⟩
    have e : z = 0 := by omega
    subst e
    rw [cst_0] at h2 h3
    omega
  · rintro ⟨h1, h2⟩
    exact ⟨0, by omega, by rw [cst_0]; omega, by rw [cst_0]; omega⟩
theorem UM_s {k f0 p w : Nat} {up uw : Nat → Nat} {A B : Nat} (hk : k < 7) : UM (k + 1) (f0 + (if 0 < p then 0 else w)) (upd_ up k p) (upd_ uw k (if 0 < p then w else 0)) A B ↔ ((0 < p ∧ (UM k f0 up uw A B ∨ ∃ A' B', A = A' + p ∧ B = B' + w ∧ UM k f0 up uw A' B')) ∨ (p = 0 ∧ ∃ B', B = B' + w ∧ UM k f0 up uw A B')) := by
  have hp2 : 2 ^ (k + 1) = 2 ^ k + 2 ^ k := by rw [Nat.pow_succ]; omega
  have hc : ∀ {f : Nat → Nat} {x z : Nat}, z < 2 ^ k → cst (upd_ f k x) (2 ^ k + z) = cst f z + x := fun {f x z} hz => by
    rw [cst_add hk hz, cst_upd hz]
    unfold upd_
    rw [if_pos rfl]
  by_cases hp : 0 < p
  · rw [if_pos hp, if_pos hp]
    constructor
    · rintro ⟨z, h1, h2, h3⟩
      refine Or.inl ⟨hp, ?_⟩
      rcases Nat.lt_or_ge z (2 ^ k) with q | q
      · rw [cst_upd q] at h2 h3
        exact Or.inl ⟨z, q, h2, by omega⟩
      · obtain ⟨y, hy⟩ : ∃ y, z = 2 ^ k + y := ⟨z - 2 ^ k, by omega⟩
        subst hy
        rw [hc (by omega)] at h2 h3
        exact Or.inr ⟨cst up y, f0 + cst uw y, by omega, by omega, y, by omega, rfl, rfl⟩
    · rintro (⟨-, h⟩ | ⟨h, -⟩)
      · rcases h with ⟨z, h1, h2, h3⟩ | ⟨A', B', e1, e2, z, h1, h2, h3⟩
        · exact ⟨z, by omega, by rw [cst_upd h1]; exact h2, by rw [cst_upd h1]; omega⟩
        · exact ⟨2 ^ k + z, by omega, by rw [hc h1]; omega, by rw [hc h1]; omega⟩
      · omega
  · rw [if_neg hp, if_neg hp]
    constructor
    · rintro ⟨z, h1, h2, h3⟩
      refine Or.inr ⟨by omega, ?_⟩
      rcases Nat.lt_or_ge z (2 ^ k) with q | q
      · rw [cst_upd q] at h2 h3
        exact ⟨f0 + cst uw z, by omega, z, q, h2, rfl⟩
      · obtain ⟨y, hy⟩ : ∃ y, z = 2 ^ k + y := ⟨z - 2 ^ k, by omega⟩
        subst hy
        rw [hc (by omega)] at h2 h3
        exact ⟨f0 + cst uw y, by omega, y, by omega, by omega, rfl⟩
    · rintro (⟨h, -⟩ | ⟨h, B', e, z, h1, h2, h3⟩)
      · omega
      · exact ⟨z, by omega, by rw [cst_upd h1]; exact h2, by rw [cst_upd h1]; omega⟩
/-- the class's answer -/
theorem LG_c {n i k f0 cq : Nat} {W P : Nat → Nat} {law v r : Int32} {up uw : Nat → Nat} (hk : k < 7) (hu : ∀ A B, UM k f0 up uw A B ↔ RC P W v i (n - 1 - i) A B)
    (hb : BST (fun z => nd law (sumr W i (n - i)) ≤ W i + (f0 + (if 0 < lgS P v i (n - 1 - i) then 0 else lgS W v i (n - 1 - i))) + cst (upd_ uw k (if 0 < lgS P v i (n - 1 - i) then lgS W v i (n - 1 - i) else 0)) z) (cst (upd_ up k (lgS P v i (n - 1 - i)))) (2 ^ (k + 1)) r) :
    LGE n W law cq i P v ↔ ∃ b, b < 2 ^ (k + 1) ∧ r = nI b ∧ cst (upd_ up k (lgS P v i (n - 1 - i))) b ≤ cq := by
  have hm : ∀ A B, UM (k + 1) (f0 + (if 0 < lgS P v i (n - 1 - i) then 0 else lgS W v i (n - 1 - i))) (upd_ up k (lgS P v i (n - 1 - i))) (upd_ uw k (if 0 < lgS P v i (n - 1 - i) then lgS W v i (n - 1 - i) else 0)) A B ↔ RLG P W v i (n - 1 - i) A B := fun A B => by
    rw [UM_s hk]
    constructor
    · rintro (⟨h, q | ⟨A', B', e1, e2, q⟩⟩ | ⟨h, B', e, q⟩)
      · exact ⟨A, B, (hu A B).mp q, Or.inl ⟨h, Or.inl ⟨rfl, rfl⟩⟩⟩
      · exact ⟨A', B', (hu A' B').mp q, Or.inl ⟨h, Or.inr ⟨e1, e2⟩⟩⟩
      · exact ⟨A, B', (hu A B').mp q, Or.inr ⟨h, rfl, e⟩⟩
    · rintro ⟨A', B', q, ⟨h, ⟨e1, e2⟩ | ⟨e1, e2⟩⟩ | ⟨h, e1, e2⟩⟩
      · exact Or.inl ⟨h, Or.inl (by rw [e1, e2]; exact (hu A' B').mpr q)⟩
      · exact Or.inl ⟨h, Or.inr ⟨A', B', e1, e2, (hu A' B').mpr q⟩⟩
      · exact Or.inr ⟨h, B', e2, by rw [e1]; exact (hu A' B').mpr q⟩
  constructor
  · rintro ⟨A, B, h1, h2, h3⟩
    obtain ⟨z, z1, z2, z3⟩ := (hm A B).mpr h1
    rcases hb with ⟨-, q⟩ | ⟨b, b1, b2, b3, b4⟩
    · exact absurd (by omega) (q z z1)
    · have := b4 z z1 (by omega)
      exact ⟨b, b1, b2, by omega⟩
  · rintro ⟨b, b1, b2, b3⟩
    rcases hb with ⟨q, -⟩ | ⟨b', c1, c2, c3, c4⟩
    · exact absurd (q.symm.trans b2) (m9_ne (by have := p2_le (show k + 1 ≤ 7 by omega); omega))
    · have hp7 := p2_le (show k + 1 ≤ 7 by omega)
      have e : b = b' := (nI_eq (by omega) (by omega)).mp (b2.symm.trans c2)
      subst e
      exact ⟨_, _, (hm _ _).mp ⟨b, b1, rfl, rfl⟩, by omega, b3⟩
/-! the reference's sets reach the same pairs -/
theorem RC_s {P W : Nat → Nat} {v : Int32} {i k A B : Nat} : RC P W v i (k + 1) A B ↔ ((bt v (i + 1 + k) = true ∧ RC P W v i k A B) ∨ (bt v (i + 1 + k) = false ∧ ((0 < P (i + 1 + k) ∧ (RC P W v i k A B ∨ ∃ A' B', A = A' + P (i + 1 + k) ∧ B = B' + W (i + 1 + k) ∧ RC P W v i k A' B')) ∨ (P (i + 1 + k) = 0 ∧ ∃ B', B = B' + W (i + 1 + k) ∧ RC P W v i k A B')))) := Iff.rfl
def TA (P : Nat → Nat) (v : Int32) (S : Nat → Bool) (i k : Nat) : Nat := sumr (fun j => if bt v j = true then 0 else if S j = true then P j else 0) (i + 1) k
def TB (P W : Nat → Nat) (v : Int32) (S : Nat → Bool) (i k : Nat) : Nat := sumr (fun j => if bt v j = true then 0 else if S j = true ∨ P j = 0 then W j else 0) (i + 1) k
theorem TA_s {P : Nat → Nat} {v : Int32} {S : Nat → Bool} {i k : Nat} : TA P v S i (k + 1) = TA P v S i k + (if bt v (i + 1 + k) = true then 0 else if S (i + 1 + k) = true then P (i + 1 + k) else 0) := rfl
theorem TB_s {P W : Nat → Nat} {v : Int32} {S : Nat → Bool} {i k : Nat} : TB P W v S i (k + 1) = TB P W v S i k + (if bt v (i + 1 + k) = true then 0 else if S (i + 1 + k) = true ∨ P (i + 1 + k) = 0 then W (i + 1 + k) else 0) := rfl
theorem RC_set {P W : Nat → Nat} {v : Int32} {i : Nat} (S : Nat → Bool) : ∀ k, RC P W v i k (TA P v S i k) (TB P W v S i k)
  | 0 => ⟨rfl, rfl⟩
  | k + 1 => by
    have h := RC_set (P := P) (W := W) (v := v) (i := i) S k
    rw [TA_s, TB_s]
    by_cases hb : bt v (i + 1 + k) = true
    · rw [if_pos hb, if_pos hb, Nat.add_zero, Nat.add_zero]
      exact RC_s.mpr (Or.inl ⟨hb, h⟩)
    · rw [if_neg hb, if_neg hb]
      refine RC_s.mpr (Or.inr ⟨Bool.eq_false_iff.mpr hb, ?_⟩)
      by_cases hp : P (i + 1 + k) = 0
      · have h0 : (if S (i + 1 + k) = true then P (i + 1 + k) else 0) = 0 := by
          split
          · exact hp
          · rfl
        rw [if_pos (Or.inr hp : S (i + 1 + k) = true ∨ P (i + 1 + k) = 0), h0, Nat.add_zero]
        exact Or.inr ⟨hp, _, rfl, h⟩
      · refine Or.inl ⟨by omega, ?_⟩
        by_cases hs : S (i + 1 + k) = true
        · rw [if_pos hs, if_pos (Or.inl hs : S (i + 1 + k) = true ∨ P (i + 1 + k) = 0)]
          exact Or.inr ⟨_, _, rfl, rfl, h⟩
        · rw [if_neg hs, if_neg (fun q => q.elim hs hp : ¬ (S (i + 1 + k) = true ∨ P (i + 1 + k) = 0)), Nat.add_zero, Nat.add_zero]
          exact Or.inl h
def uS (S : Nat → Bool) (t : Nat) (b : Bool) : Nat → Bool := fun q => if q = t then b else S q
theorem uS_t {S : Nat → Bool} {t : Nat} {b : Bool} : uS S t b t = b := by
  unfold uS
  rw [if_pos rfl]
theorem uS_n {S : Nat → Bool} {t q : Nat} {b : Bool} (h : ¬ q = t) : uS S t b q = S q := by
  unfold uS
  rw [if_neg h]
theorem TA_u {P : Nat → Nat} {v : Int32} {S : Nat → Bool} {b : Bool} {i k : Nat} : TA P v (uS S (i + 1 + k) b) i k = TA P v S i k := by
  unfold TA
  exact sumr_congr (fun j _ h2 => by rw [uS_n (show ¬ j = i + 1 + k by omega)])
theorem TB_u {P W : Nat → Nat} {v : Int32} {S : Nat → Bool} {b : Bool} {i k : Nat} : TB P W v (uS S (i + 1 + k) b) i k = TB P W v S i k := by
  unfold TB
  exact sumr_congr (fun j _ h2 => by rw [uS_n (show ¬ j = i + 1 + k by omega)])
theorem RC_ex {P W : Nat → Nat} {v : Int32} {i : Nat} : ∀ k A B, RC P W v i k A B → ∃ S : Nat → Bool, TA P v S i k = A ∧ TB P W v S i k = B
  | 0, A, B, h => ⟨fun _ => false, h.1.symm, h.2.symm⟩
  | k + 1, A, B, h => by
    rcases RC_s.mp h with ⟨hb, h1⟩ | ⟨hb, ⟨hp, h1 | ⟨A', B', e1, e2, h1⟩⟩ | ⟨hp, B', e2, h1⟩⟩
    · obtain ⟨S, s1, s2⟩ := RC_ex k A B h1
      exact ⟨S, by rw [TA_s, if_pos hb, Nat.add_zero]; exact s1, by rw [TB_s, if_pos hb, Nat.add_zero]; exact s2⟩
    · have hb' : ¬ bt v (i + 1 + k) = true := Bool.eq_false_iff.mp hb
      obtain ⟨S, s1, s2⟩ := RC_ex k A B h1
      exact ⟨uS S (i + 1 + k) false, by rw [TA_s, TA_u, if_neg hb', uS_t, if_neg (by decide : ¬ false = true), Nat.add_zero]; exact s1, by rw [TB_s, TB_u, if_neg hb', uS_t, if_neg (fun q => q.elim (fun z => Bool.noConfusion z) (fun z => by omega) : ¬ (false = true ∨ P (i + 1 + k) = 0)), Nat.add_zero]; exact s2⟩
    · have hb' : ¬ bt v (i + 1 + k) = true := Bool.eq_false_iff.mp hb
      obtain ⟨S, s1, s2⟩ := RC_ex k A' B' h1
      exact ⟨uS S (i + 1 + k) true, by rw [TA_s, TA_u, if_neg hb', uS_t, if_pos (rfl : true = true), s1, e1], by rw [TB_s, TB_u, if_neg hb', uS_t, if_pos (Or.inl rfl : true = true ∨ P (i + 1 + k) = 0), s2, e2]⟩
    · have hb' : ¬ bt v (i + 1 + k) = true := Bool.eq_false_iff.mp hb
      obtain ⟨S, s1, s2⟩ := RC_ex k A B' h1
      exact ⟨uS S (i + 1 + k) false, by rw [TA_s, TA_u, if_neg hb', uS_t, if_neg (by decide : ¬ false = true), Nat.add_zero]; exact s1, by rw [TB_s, TB_u, if_neg hb', uS_t, if_pos (Or.inr hp : false = true ∨ P (i + 1 + k) = 0), s2, e2]⟩
/-- the weight with a set: who asks for nothing votes yes, the league as one man -/
def LGW (P W : Nat → Nat) (v : Int32) (fr i y : Nat) (S : Nat → Bool) : Nat := sumr (fun q => if S q = true ∨ (P q = 0 ∧ ¬ bt v q = true) ∨ (fr = 0 ∧ bt v q = true) then W q else 0) (i + 1) y
theorem lg_cost_d {P : Nat → Nat} {v : Int32} {S : Nat → Bool} {i y : Nat} (h : ∀ q, bt v q = true → S q = false) : sumr (fun q => if S q = true then P q else 0) (i + 1) y = TA P v S i y := by
  unfold TA
  exact sumr_congr (fun q _ _ => by
    by_cases hb : bt v q = true
    · rw [if_pos hb, if_neg (by rw [h q hb]; decide : ¬ S q = true)]
    · rw [if_neg hb])
theorem lg_cost_s {P : Nat → Nat} {v : Int32} {S : Nat → Bool} {i y : Nat} (h : ∀ q, bt v q = true → S q = true) : sumr (fun q => if S q = true then P q else 0) (i + 1) y = TA P v S i y + lgS P v i y := by
  unfold TA lgS
  rw [sumr_add]
  exact sumr_congr (fun q _ _ => by
    by_cases hb : bt v q = true
    · rw [if_pos (h q hb), if_pos hb, if_pos hb, Nat.zero_add]
    · rw [if_neg hb, if_neg hb, Nat.add_zero])
theorem lg_pt {P W : Nat → Nat} {v : Int32} {fr : Nat} {S : Nat → Bool} {q : Nat} (hb : ¬ bt v q = true) : (if S q = true ∨ (P q = 0 ∧ ¬ bt v q = true) ∨ (fr = 0 ∧ bt v q = true) then W q else 0) = (if S q = true ∨ P q = 0 then W q else 0) := by
  by_cases hs : S q = true ∨ P q = 0
  · rw [if_pos hs]
    exact if_pos (hs.elim Or.inl (fun z => Or.inr (Or.inl ⟨z, hb⟩)))
  · rw [if_neg hs]
    exact if_neg (fun z => hs (z.elim Or.inl (fun z => z.elim (fun z => Or.inr z.1) (fun z => absurd z.2 hb))))
theorem lg_w_s {P W : Nat → Nat} {v : Int32} {fr : Nat} {S : Nat → Bool} {i y : Nat} (h : ∀ q, bt v q = true → S q = true) : LGW P W v fr i y S = TB P W v S i y + lgS W v i y := by
  unfold LGW TB lgS
  rw [sumr_add]
  exact sumr_congr (fun q _ _ => by
    by_cases hb : bt v q = true
    · have e1 : (if S q = true ∨ (P q = 0 ∧ ¬ bt v q = true) ∨ (fr = 0 ∧ bt v q = true) then W q else 0) = W q := if_pos (Or.inl (h q hb))
      rw [e1, if_pos hb, if_pos hb, Nat.zero_add]
    · rw [lg_pt hb, if_neg hb, if_neg hb, Nat.add_zero])
theorem lg_w_d {P W : Nat → Nat} {v : Int32} {fr : Nat} {S : Nat → Bool} {i y : Nat} (h : ∀ q, bt v q = true → S q = false) : LGW P W v fr i y S = TB P W v S i y + (if fr = 0 then lgS W v i y else 0) := by
  by_cases hf : fr = 0
  · rw [if_pos hf]
    unfold LGW TB lgS
    rw [sumr_add]
    exact sumr_congr (fun q _ _ => by
      by_cases hb : bt v q = true
      · have e1 : (if S q = true ∨ (P q = 0 ∧ ¬ bt v q = true) ∨ (fr = 0 ∧ bt v q = true) then W q else 0) = W q := if_pos (Or.inr (Or.inr ⟨hf, hb⟩))
        rw [e1, if_pos hb, if_pos hb, Nat.zero_add]
      · rw [lg_pt hb, if_neg hb, if_neg hb, Nat.add_zero])
  · rw [if_neg hf, Nat.add_zero]
    unfold LGW TB
    exact sumr_congr (fun q _ _ => by
      by_cases hb : bt v q = true
      · have e1 : (if S q = true ∨ (P q = 0 ∧ ¬ bt v q = true) ∨ (fr = 0 ∧ bt v q = true) then W q else 0) = 0 := if_neg (fun z => z.elim (fun z => by rw [h q hb] at z; exact absurd z (by decide)) (fun z => z.elim (fun z => z.2 hb) (fun z => hf z.1)))
        rw [e1, if_pos hb]
      · rw [lg_pt hb, if_neg hb])
def QM (n : Nat) (W : Nat → Nat) (law : Int32) (cq i : Nat) (P : Nat → Nat) (v : Int32) (s : Nat) : Prop := BND n i s ∧ ((∀ q, bt v q = true → s.testBit q = false) ∨ (∀ q, bt v q = true → s.testBit q = true)) ∧ cstm P n i s ≤ cq ∧ nd law (sumr W i (n - i)) ≤ W i + LGW P W v (lgS P v i (n - 1 - i)) i (n - 1 - i) s.testBit
theorem LG_m {n i cq : Nat} {W P : Nat → Nat} {law v : Int32} (hv : ∀ q, bt v q = true → i < q ∧ q < n) : (∃ s, s < 2 ^ n ∧ QM n W law cq i P v s) ↔ LGE n W law cq i P v := by
  constructor
  · rintro ⟨s, hs, hB, hd, hc, hw⟩
    have hr := RC_set (P := P) (W := W) (v := v) (i := i) s.testBit (n - 1 - i)
    unfold cstm at hc
    rcases hd with hd | hd
    · rw [lg_cost_d (P := P) (i := i) (y := n - 1 - i) hd] at hc
      rw [lg_w_d (P := P) (W := W) (i := i) (y := n - 1 - i) hd] at hw
      by_cases hf : lgS P v i (n - 1 - i) = 0
      · rw [if_pos hf] at hw
        exact ⟨_, _, ⟨_, _, hr, Or.inr ⟨hf, rfl, rfl⟩⟩, hw, hc⟩
      · rw [if_neg hf, Nat.add_zero] at hw
        exact ⟨_, _, ⟨_, _, hr, Or.inl ⟨by omega, Or.inl ⟨rfl, rfl⟩⟩⟩, hw, hc⟩
    · rw [lg_cost_s (P := P) (i := i) (y := n - 1 - i) hd] at hc
      rw [lg_w_s (P := P) (W := W) (i := i) (y := n - 1 - i) hd] at hw
      by_cases hf : lgS P v i (n - 1 - i) = 0
      · rw [hf, Nat.add_zero] at hc
        exact ⟨_, _, ⟨_, _, hr, Or.inr ⟨hf, rfl, rfl⟩⟩, hw, hc⟩
      · exact ⟨_, _, ⟨_, _, hr, Or.inl ⟨by omega, Or.inr ⟨rfl, rfl⟩⟩⟩, hw, hc⟩
  · rintro ⟨A, B, ⟨A', B', hr, hx⟩, hw, hc⟩
    obtain ⟨S, s1, s2⟩ := RC_ex _ _ _ hr
    have key : ∀ b : Bool, ∃ s, s < 2 ^ n ∧ BND n i s ∧ (∀ q, bt v q = true → s.testBit q = b) ∧ TA P v s.testBit i (n - 1 - i) = A' ∧ TB P W v s.testBit i (n - 1 - i) = B' := fun b => by
      have hbit : ∀ q, (num (fun q => decide (i < q) && (if bt v q = true then b else S q)) n).testBit q = (decide (q < n) && (decide (i < q) && (if bt v q = true then b else S q))) := fun q => num_bit n
      have hin : ∀ q, i < q → q < n → ¬ bt v q = true → (num (fun q => decide (i < q) && (if bt v q = true then b else S q)) n).testBit q = S q := fun q h1 h2 h3 => by
        rw [hbit q, decide_eq_true h1, decide_eq_true h2, if_neg h3, Bool.true_and, Bool.true_and]
      refine ⟨num (fun q => decide (i < q) && (if bt v q = true then b else S q)) n, num_lt n, ?_, ?_, ?_, ?_⟩
      · intro q hq
        rw [hbit q] at hq
        simp only [Bool.and_eq_true, decide_eq_true_eq] at hq
        exact ⟨hq.2.1, hq.1⟩
      · intro q hb
        rw [hbit q, decide_eq_true (hv q hb).2, decide_eq_true (hv q hb).1, if_pos hb, Bool.true_and, Bool.true_and]
      · rw [← s1]
        unfold TA
        exact sumr_congr (fun q h1 h2 => by
          by_cases hb : bt v q = true
          · rw [if_pos hb, if_pos hb]
          · rw [if_neg hb, if_neg hb, hin q (by omega) (by omega) hb])
      · rw [← s2]
        unfold TB
        exact sumr_congr (fun q h1 h2 => by
          by_cases hb : bt v q = true
          · rw [if_pos hb, if_pos hb]
          · rw [if_neg hb, if_neg hb, hin q (by omega) (by omega) hb])
    rcases hx with ⟨hp, ⟨e1, e2⟩ | ⟨e1, e2⟩⟩ | ⟨hp, e1, e2⟩
    · obtain ⟨s, k1, k2, k3, k4, k5⟩ := key false
      refine ⟨s, k1, k2, Or.inl k3, ?_, ?_⟩
      · unfold cstm
        rw [lg_cost_d k3, k4]
        omega
      · rw [lg_w_d k3, k5, if_neg (show ¬ lgS P v i (n - 1 - i) = 0 by omega)]
        omega
    · obtain ⟨s, k1, k2, k3, k4, k5⟩ := key true
      refine ⟨s, k1, k2, Or.inr k3, ?_, ?_⟩
      · unfold cstm
        rw [lg_cost_s k3, k4]
        omega
      · rw [lg_w_s k3, k5]
        omega
    · obtain ⟨s, k1, k2, k3, k4, k5⟩ := key false
      refine ⟨s, k1, k2, Or.inl k3, ?_, ?_⟩
      · unfold cstm
        rw [lg_cost_d k3, k4]
        omega
      · rw [lg_w_d k3, k5, if_pos hp]
        omega
theorem lg_yw {n i fr s : Nat} {W P : Nat → Nat} {v x : Int32} (hi : i < n) (hB : BND n i s) (hv : ∀ q, bt v q = true → i < q ∧ q < n) (hx : ∀ q, q < n → (bt x q = true ↔ (q = i ∨ s.testBit q = true ∨ (i < q ∧ P q = 0 ∧ ¬ bt v q = true) ∨ (fr = 0 ∧ bt v q = true)))) : yw W x 0 n = W i + LGW P W v fr i (n - 1 - i) s.testBit := by
  rw [yw_from (Nat.le_of_lt hi) (fun q hq => Bool.eq_false_iff.mpr (fun z => by
    rcases (hx q (by omega)).mp z with e | e | e | e
    · omega
    · have := hB q e
      omega
    · omega
    · have := hv q e.2
      omega))]
  unfold yw
  rw [show n - i = (n - 1 - i) + 1 by omega, sumr_cons, if_pos ((hx i hi).mpr (Or.inl rfl))]
  unfold LGW
  congr 1
  exact sumr_congr (fun q h1 h2 => by
    by_cases hc : s.testBit q = true ∨ (P q = 0 ∧ ¬ bt v q = true) ∨ (fr = 0 ∧ bt v q = true)
    · rw [if_pos hc, if_pos ((hx q (by omega)).mpr (hc.elim (fun z => Or.inr (Or.inl z)) (fun z => z.elim (fun z => Or.inr (Or.inr (Or.inl ⟨by omega, z⟩))) (fun z => Or.inr (Or.inr (Or.inr z))))))]
    · rw [if_neg hc, if_neg (fun z => hc (((hx q (by omega)).mp z).elim (fun e => by omega) (fun z => z.elim Or.inl (fun z => Or.inr (z.imp (fun y => y.2) id)))))])
theorem bt_lt {v : Int32} {q : Nat} (h : bt v q = true) : q < 32 := by
  rcases Nat.lt_or_ge q 32 with z | z
  · exact z
  · unfold bt at h
    rw [BitVec.getLsbD_of_ge _ _ z] at h
    exact absurd h (by decide)
theorem lg_mask {n i : Nat} {v y : Int32} (hy : ∀ b, b < 32 → bt y b = decide (i < b ∧ b < n)) : v &&& (y ^^^ (-1)) = 0 ↔ ∀ q, bt v q = true → i < q ∧ q < n := by
  constructor
  · intro h q hq
    have hq2 := bt_lt hq
    have h1 : bt (v &&& (y ^^^ (-1))) q = false := by rw [h, b_0]
    rw [b_and, hq, Bool.true_and, b_not hq2, hy q hq2] at h1
    by_cases e : i < q ∧ q < n
    · exact e
    · rw [decide_eq_false e] at h1
      exact absurd h1 (by decide)
  · intro h
    apply b_ext
    intro q hq
    rw [b_and, b_0]
    cases hb : bt v q with
    | false => rfl
    | true =>
      rw [b_not hq, hy q hq, decide_eq_true (h q hb)]
      rfl
theorem lg_and0 {n i s : Nat} {v : Int32} (hn : n ≤ 8) (hs : s < 2 ^ n) (hv : ∀ q, bt v q = true → i < q ∧ q < n) : nI s &&& v = 0 ↔ ∀ q, bt v q = true → s.testBit q = false := by
  have h8 := p28 hn
  constructor
  · intro h q hq
    have h1 : bt (nI s &&& v) q = false := by rw [h, b_0]
    have h2 := hv q hq
    rw [b_and, hq, Bool.and_true, b_get (by omega) (by omega)] at h1
    exact h1
  · intro h
    apply b_ext
    intro q hq
    rw [b_and, b_0]
    cases hb : bt v q with
    | false => exact Bool.and_false _
    | true =>
      have h2 := hv q hb
      rw [b_get (by omega) (by omega), h q hb]
      rfl
theorem lg_sub0 {n i s : Nat} {v : Int32} (hn : n ≤ 8) (hs : s < 2 ^ n) (hv : ∀ q, bt v q = true → i < q ∧ q < n) : v &&& (nI s ^^^ (-1)) = 0 ↔ ∀ q, bt v q = true → s.testBit q = true := by
  have h8 := p28 hn
  constructor
  · intro h q hq
    have h1 : bt (v &&& (nI s ^^^ (-1))) q = false := by rw [h, b_0]
    have h2 := hv q hq
    rw [b_and, hq, Bool.true_and, b_not (by omega), b_get (by omega) (by omega)] at h1
    cases h3 : s.testBit q with
    | true => rfl
    | false => rw [h3] at h1; exact absurd h1 (by decide)
  · intro h
    apply b_ext
    intro q hq
    rw [b_and, b_0]
    cases hb : bt v q with
    | false => rfl
    | true =>
      have h2 := hv q hb
      rw [b_not hq, b_get (by omega) (by omega), h q hb]
      rfl
/-- how many bits -/
def LGN (v : Int32) : Nat := sumr (fun b => if bt v b = true then 1 else 0) 0 8
def LGNn (x : Nat) : Nat := sumr (fun b => if x.testBit b = true then 1 else 0) 0 8
def LGM (n sn : Nat) (v : Int32) : Prop := (∀ q, bt v q = true → sn < q ∧ q < n) ∧ 2 ≤ LGN v
theorem LGN_n {x : Nat} (hx : x < 256) : LGN (nI x) = LGNn x := sumr_congr (fun b _ h2 => by rw [b_get (by omega) (by omega)])
theorem LGN_le {v : Int32} : LGN v ≤ 8 := by
  have := sumr_le (f := fun b => if bt v b = true then 1 else 0) (a := 0) (b := 1) (k := 8) (fun j _ _ => by split <;> omega)
  unfold LGN
  omega
theorem lg_nat {v : Int32} (h : ∀ q, bt v q = true → q < 8) : ∃ x, x < 256 ∧ v = nI x := by
  have hl := num_lt (f := fun q => bt v q) 8
  refine ⟨num (fun q => bt v q) 8, by omega, b_ext (fun q hq => ?_)⟩
  have hb : bt v q = (decide (q < 8) && bt v q) := by
    cases hv : bt v q with
    | false => exact (Bool.and_false _).symm
    | true => rw [decide_eq_true (h q hv)]; rfl
  by_cases e : q < 31
  · rw [b_get (by omega) e, num_bit 8]
    exact hb
  · have e2 : q = 31 := by omega
    subst e2
    rw [hb]
    show _ = (BitVec.ofNat 32 (num (fun q => bt v q) 8)).getLsbD 31
    rw [BitVec.getLsbD_ofNat, Nat.testBit_lt_two_pow (by omega)]
    simp
theorem lg_31 {v : Int32} (h : ∀ q, bt v q = true → q < 8) : sumr (fun b => if bt v b = true then 1 else 0) 0 31 = LGN v := by
  unfold LGN
  rw [show 31 = 8 + 23 by omega]
  refine sumr_ext0 (fun j h1 h2 => ?_)
  rw [if_neg (fun z => by have := h j z; omega)]
def LGR (n sn : Nat) (dn : Int32) (K F W S5 : Nat → Nat) (v r : Int32) : Prop := (OVR n dn → r = -3) ∧ (¬ OVR n dn → ¬ LGM n sn v → r = -1) ∧ (¬ OVR n dn → LGM n sn v → LGE n W (nI (S5 1)) (S5 0) sn (zP (PO n K F W S5) sn) v → r = 1) ∧ (¬ OVR n dn → LGM n sn v → ¬ LGE n W (nI (S5 1)) (S5 0) sn (zP (PO n K F W S5) sn) v → r = 0)
theorem LGR_un {n sn : Nat} {dn : Int32} {K F W S5 : Nat → Nat} {v r r' : Int32} (h : LGR n sn dn K F W S5 v r) (h' : LGR n sn dn K F W S5 v r') : r = r' := by
  by_cases h1 : OVR n dn
  · rw [h.1 h1, h'.1 h1]
  · by_cases h2 : LGM n sn v
    · by_cases h3 : LGE n W (nI (S5 1)) (S5 0) sn (zP (PO n K F W S5) sn) v
      · rw [h.2.2.1 h1 h2 h3, h'.2.2.1 h1 h2 h3]
      · rw [h.2.2.2 h1 h2 h3, h'.2.2.2 h1 h2 h3]
    · rw [h.2.1 h1 h2, h'.2.1 h1 h2]
theorem LGR_o {n sn : Nat} {dn : Int32} {K F W S5 : Nat → Nat} {v : Int32} (h : OVR n dn) : LGR n sn dn K F W S5 v (-3) := ⟨fun _ => rfl, fun q => absurd h q, fun q => absurd h q, fun q => absurd h q⟩
theorem LGR_m {n sn : Nat} {dn : Int32} {K F W S5 : Nat → Nat} {v : Int32} (h : ¬ OVR n dn) (h2 : ¬ LGM n sn v) : LGR n sn dn K F W S5 v (-1) := ⟨fun q => absurd q h, fun _ _ => rfl, fun _ q => absurd q h2, fun _ q => absurd q h2⟩
theorem LGR_1 {n sn : Nat} {dn : Int32} {K F W S5 : Nat → Nat} {v : Int32} (h : ¬ OVR n dn) (h2 : LGM n sn v) (h3 : LGE n W (nI (S5 1)) (S5 0) sn (zP (PO n K F W S5) sn) v) : LGR n sn dn K F W S5 v 1 := ⟨fun q => absurd q h, fun _ q => absurd h2 q, fun _ _ _ => rfl, fun _ _ q => absurd h3 q⟩
theorem LGR_0 {n sn : Nat} {dn : Int32} {K F W S5 : Nat → Nat} {v : Int32} (h : ¬ OVR n dn) (h2 : LGM n sn v) (h3 : ¬ LGE n W (nI (S5 1)) (S5 0) sn (zP (PO n K F W S5) sn) v) : LGR n sn dn K F W S5 v 0 := ⟨fun q => absurd q h, fun _ q => absurd h2 q, fun _ _ q => absurd q h3, fun _ _ _ => rfl⟩
theorem LGNn_le {x : Nat} : LGNn x ≤ 8 := by
  have := sumr_le (f := fun b => if x.testBit b = true then 1 else 0) (a := 0) (b := 1) (k := 8) (fun j _ _ => by split <;> omega)
  unfold LGNn
  omega
theorem RC_y {P W : Nat → Nat} {v : Int32} {i j A B : Nat} (hj : i < j) (hb : bt v j = true) : RC P W v i (j + 1 - (i + 1)) A B ↔ RC P W v i (j - (i + 1)) A B := by
  rw [show j + 1 - (i + 1) = (j - (i + 1)) + 1 by omega, RC_s, show i + 1 + (j - (i + 1)) = j by omega, hb]
  constructor
  · rintro (⟨-, h⟩ | ⟨h, -⟩)
    · exact h
    · exact absurd h (by decide)
  · exact fun h => Or.inl ⟨rfl, h⟩
theorem RC_n {P W : Nat → Nat} {v : Int32} {i j A B : Nat} (hj : i < j) (hb : bt v j = false) : RC P W v i (j + 1 - (i + 1)) A B ↔ ((0 < P j ∧ (RC P W v i (j - (i + 1)) A B ∨ ∃ A' B', A = A' + P j ∧ B = B' + W j ∧ RC P W v i (j - (i + 1)) A' B')) ∨ (P j = 0 ∧ ∃ B', B = B' + W j ∧ RC P W v i (j - (i + 1)) A B')) := by
  rw [show j + 1 - (i + 1) = (j - (i + 1)) + 1 by omega, RC_s, show i + 1 + (j - (i + 1)) = j by omega, hb]
  constructor
  · rintro (⟨h, -⟩ | ⟨-, h⟩)
    · exact absurd h (by decide)
    · exact h
  · exact fun h => Or.inr ⟨rfl, h⟩
theorem lgS_y {f : Nat → Nat} {v : Int32} {i j : Nat} (hj : i < j) (hb : bt v j = true) : lgS f v i (j + 1 - (i + 1)) = lgS f v i (j - (i + 1)) + f j := by
  rw [show j + 1 - (i + 1) = (j - (i + 1)) + 1 by omega, lgS_s, show i + 1 + (j - (i + 1)) = j by omega, if_pos hb]
theorem lgS_n {f : Nat → Nat} {v : Int32} {i j : Nat} (hj : i < j) (hb : bt v j = false) : lgS f v i (j + 1 - (i + 1)) = lgS f v i (j - (i + 1)) := by
  rw [show j + 1 - (i + 1) = (j - (i + 1)) + 1 by omega, lgS_s, show i + 1 + (j - (i + 1)) = j by omega, if_neg (Bool.eq_false_iff.mp hb), Nat.add_zero]
theorem UM_RC {P W : Nat → Nat} {v : Int32} {i j k f0 : Nat} {up uw : Nat → Nat} (hk : k < 7) (hj : i < j) (hb : bt v j = false) (h : ∀ A B, UM k f0 up uw A B ↔ RC P W v i (j - (i + 1)) A B) : ∀ A B, UM (k + 1) (f0 + (if 0 < P j then 0 else W j)) (upd_ up k (P j)) (upd_ uw k (if 0 < P j then W j else 0)) A B ↔ RC P W v i (j + 1 - (i + 1)) A B := fun A B => by
  rw [UM_s hk, RC_n hj hb]
  simp only [h]
theorem LG_c2 {n i k f0 cq p0 w0 : Nat} {W P : Nat → Nat} {law v r : Int32} {up uw : Nat → Nat} (hk : k < 7) (hp : p0 = lgS P v i (n - 1 - i)) (hw : w0 = lgS W v i (n - 1 - i)) (hu : ∀ A B, UM k f0 up uw A B ↔ RC P W v i (n - 1 - i) A B)
    (hb : BST (fun z => nd law (sumr W i (n - i)) ≤ W i + (f0 + (if 0 < p0 then 0 else w0)) + cst (upd_ uw k (if 0 < p0 then w0 else 0)) z) (cst (upd_ up k p0)) (2 ^ (k + 1)) r) :
    LGE n W law cq i P v ↔ ∃ b, b < 2 ^ (k + 1) ∧ r = nI b ∧ cst (upd_ up k p0) b ≤ cq := by
  subst hp
  subst hw
  exact LG_c hk hu hb
theorem sumr_ge {f : Nat → Nat} {a j : Nat} : ∀ {k : Nat}, a ≤ j → j < a + k → f j ≤ sumr f a k
  | 0, h1, h2 => by omega
  | k + 1, h1, h2 => by
    show f j ≤ sumr f a k + f (a + k)
    by_cases e : j = a + k
    · rw [e]; omega
    · have := sumr_ge (f := f) (a := a) (j := j) (k := k) h1 (by omega)
      omega
theorem lgS_pos {P : Nat → Nat} {v : Int32} {n i j : Nat} (h1 : i < j) (h2 : j < n) (hb : bt v j = true) (hp : 0 < P j) : ¬ lgS P v i (n - 1 - i) = 0 := by
  have h := sumr_ge (f := fun j => if bt v j = true then P j else 0) (a := i + 1) (j := j) (k := n - 1 - i) (by omega) (by omega)
  have h3 : (if bt v j = true then P j else 0) = P j := if_pos hb
  unfold lgS
  intro q
  rw [q] at h
  have h4 : (if bt v j = true then P j else 0) ≤ 0 := h
  omega
theorem lg_wx {n i s fr : Nat} {P : Nat → Nat} {v u w x : Int32} (hi : i < n ∧ n ≤ 8) (hs : s < 2 ^ n) (hu : ∀ b, b < 32 → bt u b = (decide (i < b ∧ b < n ∧ P b = 0) && !bt v b)) (hx : x = ((nI s ||| u) ||| ((1 : Int32) <<< (nI i &&& 31))) ||| w) (hw : (w = v ∧ fr = 0) ∨ (w = 0 ∧ ¬ fr = 0)) :
    ∀ q, q < n → (bt x q = true ↔ (q = i ∨ s.testBit q = true ∨ (i < q ∧ P q = 0 ∧ ¬ bt v q = true) ∨ (fr = 0 ∧ bt v q = true))) := by
  have h8 := p28 hi.2
  intro q hq
  rw [hx, b_or, b_or, b_or, b_one i (by omega) q (by omega), hu q (by omega), b_get (by omega) (by omega)]
  simp only [Bool.or_eq_true, Bool.and_eq_true, decide_eq_true_eq, Bool.not_eq_true']
  constructor
  · rintro (((h | ⟨⟨h1, h2, h3⟩, h4⟩) | h) | h)
    · exact Or.inr (Or.inl h)
    · exact Or.inr (Or.inr (Or.inl ⟨h1, h3, by rw [h4]; decide⟩))
    · exact Or.inl h
    · rcases hw with ⟨e, f⟩ | ⟨e, f⟩
      · rw [e] at h; exact Or.inr (Or.inr (Or.inr ⟨f, h⟩))
      · rw [e, b_0] at h; exact absurd h (by decide)
  · rintro (h | h | ⟨h1, h2, h3⟩ | ⟨h1, h2⟩)
    · exact Or.inl (Or.inr h)
    · exact Or.inl (Or.inl (Or.inl h))
    · exact Or.inl (Or.inl (Or.inr ⟨⟨h1, hq, h2⟩, Bool.eq_false_iff.mpr h3⟩))
    · rcases hw with ⟨e, f⟩ | ⟨e, f⟩
      · rw [e]; exact Or.inr h2
      · exact absurd h1 f
