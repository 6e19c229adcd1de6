/-- the reference's reading -/
theorem dig_d {x : Nat} (h : dig x) : 48 ≤ x ∧ x ≤ 57 := h
def nxt (L : Nat → Nat) (lz a : Nat) : Int32 := if a < lz then nI (L a) else -1
def dgc (L : Nat → Nat) (lz j : Nat) : Prop := j < lz ∧ dig (L j)
def rdv (L : Nat → Nat) (a : Nat) : Nat → Nat
  | 0 => 0
  | k + 1 => 10 * rdv L a k + (L (a + k) - 48)
theorem nx_dig {L : Nat → Nat} {lz a : Nat} {x r : Int32} (hL : ∀ k, k < lz → L k ≤ 255) (hx : x = nxt L lz a) (hr : r = if x < 48 then 0 else if 57 < x then 0 else 1) : (r = 0 → ¬ dgc L lz a) ∧ (¬ r = 0 → dgc L lz a) := by
  by_cases h : a < lz
  · unfold nxt at hx
    rw [if_pos h] at hx
    subst hx
    obtain ⟨d1, d2⟩ := dig_b (hL a h) hr
    exact ⟨fun q z => d1 q z.2, fun q => ⟨h, d2 q⟩⟩
  · unfold nxt at hx
    rw [if_neg h] at hx
    rw [hx, if_pos (by decide)] at hr
    exact ⟨fun _ z => h z.1, fun q => absurd hr q⟩
theorem nx_k {L : Nat → Nat} {lz a k : Nat} {x : Int32} (hL : ∀ k, k < lz → L k ≤ 255) (hk : k ≤ 255) (hx : x = nxt L lz a) : x = nI k ↔ a < lz ∧ L a = k := by
  unfold nxt at hx
  by_cases h : a < lz
  · rw [if_pos h] at hx
    rw [hx, nI_b0 (hL a h) hk]
    exact ⟨fun q => ⟨h, q⟩, fun q => q.2⟩
  · rw [if_neg h] at hx
    refine ⟨fun q => ?_, fun q => absurd q.1 h⟩
    rw [hx] at q
    exact absurd (show nI k < 0 by rw [← q]; decide) (nI_pos (by omega))
theorem rdv_s {L : Nat → Nat} {a k : Nat} (h : dig (L (a + k))) : 10 * nI (rdv L a k) + nI (L (a + k)) - 48 = nI (rdv L a (k + 1)) := by
  rw [show (10 : Int32) = nI 10 from rfl, pk_mul, nI_add, show (48 : Int32) = nI 48 from rfl, pk_sub (by have := h.1; omega)]
  congr 1
  show _ = 10 * rdv L a k + (L (a + k) - 48)
  have := h.1
  omega
def TLD (L : Nat → Nat) (s e k : Nat) (td : Nat → Int32) : Prop := ((L s = 109 ∨ L s = 108) → ∀ i, i < 3 → td (3 * k + i) = nI (L (s + 1 + i) - 48)) ∧ (L s = 99 → td (3 * k) = nI (lC L s e))
theorem fps_at {L : Nat → Nat} {q : Nat} : ∀ (k p : Nat), p ≤ q → q ≤ p + k → lrn L q ≠ 9 → (q < p + k → lrn L (q + 1) = 9) → fps L p k = q
  | 0, p, h1, h2, _, _ => by show p = q; omega
  | k + 1, p, h1, h2, h3, h4 => by
    show (if lrn L (p + 1) = 9 then p else fps L (p + 1) k) = q
    by_cases e : p = q
    · subst e; rw [if_pos (h4 (by omega))]
    · rw [if_neg (lrn_le h3 (by omega))]
      exact fps_at k (p + 1) (by omega) (by omega) h3 (fun z => h4 (by omega))
def FLP (L : Nat → Nat) (lz q : Nat) : Prop := q = fps L 0 lz ∧ ¬ (lrn L lz = 0 ∧ 0 < lz)
theorem flp_of {L : Nat → Nat} {lz q t : Nat} (hq : q ≤ lz) (ht : lrn L q = t) (h9 : t ≠ 9) (hb : q < lz → lsp t (L q) = 9) (he : q = lz → t ≠ 0 ∨ lz = 0) : FLP L lz q := by
  have hs : q < lz → lrn L (q + 1) = 9 := fun z => by show lsp (lrn L q) (L q) = 9; rw [ht]; exact hb z
  refine ⟨(fps_at lz 0 (by omega) (by omega) (by rw [ht]; exact h9) (fun z => hs (by omega))).symm, fun z => ?_⟩
  rcases Nat.lt_or_ge q lz with h | h
  · exact lrn_le (p := q + 1) (z := lz) (by rw [z.1]; decide) (by omega) (hs h)
  · have e : q = lz := by omega
    rcases he e with r | r
    · rw [e, z.1] at ht; exact r ht.symm
    · omega
theorem lrn_s {L : Nat → Nat} {p t : Nat} (h : lrn L p = t) : lrn L (p + 1) = lsp t (L p) := by
  show lsp (lrn L p) (L p) = _; rw [h]
theorem ndg {L : Nat → Nat} {lz q : Nat} (h : ¬ dgc L lz q) (hq : q < lz) : ¬ (48 ≤ L q ∧ L q ≤ 57) := fun z => h ⟨hq, z⟩
/-- the statements that were read -/
def PRS (L : Nat → Nat) (lz a k : Nat) (lf laf td : Nat → Int32) : Prop := a ≤ lz ∧ lrn L a = 0 ∧ k = scn L a ∧ 3 * k ≤ a ∧ (k = 0 → a = 0) ∧ ∀ e, e < a → L e = 59 → scn L e < k ∧ lf (scn L e) = nI (L (lst L e)) ∧ laf (scn L e) = nI (lst L e) ∧ TLD L (lst L e) e (scn L e) td
theorem PRS_0 {L : Nat → Nat} {lz : Nat} {lf laf td : Nat → Int32} : PRS L lz 0 0 lf laf td := ⟨by omega, rfl, rfl, by omega, fun _ => rfl, fun e he => by omega⟩
theorem nose {L : Nat → Nat} {n : Nat} {dn : Int32} {lz p : Nat} : ∀ d, (∀ j, p ≤ j → j < p + d → ¬ L j = 59) → scn L (p + d) = scn L p ∧ lst L (p + d) = lst L p ∧ cm L (p + d) = cm L p ∧ (p + d ≤ lz → fwr L n dn p (lz - p) = fwr L n dn (p + d) (lz - (p + d)))
  | 0, _ => ⟨rfl, rfl, rfl, fun _ => rfl⟩
  | d + 1, h => by
    obtain ⟨a1, a2, a3, a4⟩ := nose (n := n) (dn := dn) (lz := lz) d (fun j h1 h2 => h j h1 (by omega))
    have hn := h (p + d) (by omega) (by omega)
    refine ⟨(scn_no hn).trans a1, (lst_no hn).trans a2, (cm_no (fun z => hn z.1)).trans a3, fun hz => ?_⟩
    rw [a4 (by omega), fwr_s (by omega), if_neg (fun z => hn z.1)]
    rfl
theorem nosE {L : Nat → Nat} {n sn : Nat} {dn : Int32} {K F W S5 : Nat → Nat} {kf ff wf stf : Nat → Int32} {p : Nat} (h : EVT L p n sn dn K F W S5 kf ff wf stf) : ∀ d, (∀ j, p ≤ j → j < p + d → ¬ L j = 59) → EVT L (p + d) n sn dn K F W S5 kf ff wf stf
  | 0, _ => h
  | d + 1, q => EVT_no (nosE h d (fun j h1 h2 => q j h1 (by omega))) (q (p + d) (by omega) (by omega))
theorem lst_0 {L : Nat → Nat} {p : Nat} (h : lrn L p = 0) : lst L p = p := by
  have := RNV_r (L := L) p (by rw [h]; decide)
  rw [h] at this
  unfold RNV at this
  omega
theorem fse (L : Nat → Nat) (p : Nat) : ∀ d, (∃ e, p ≤ e ∧ e < p + d ∧ L e = 59 ∧ ∀ j, p ≤ j → j < e → ¬ L j = 59) ∨ ∀ j, p ≤ j → j < p + d → ¬ L j = 59
  | 0 => Or.inr (fun j h1 h2 => by omega)
  | d + 1 => by
    rcases fse L p d with ⟨e, h1, h2, h3, h4⟩ | h
    · exact Or.inl ⟨e, h1, by omega, h3, h4⟩
    · by_cases q : L (p + d) = 59
      · exact Or.inl ⟨p + d, by omega, by omega, q, fun j h1 h2 => h j h1 (by omega)⟩
      · refine Or.inr (fun j h1 h2 => ?_)
        by_cases e : j = p + d
        · rw [e]; exact q
        · exact h j h1 (by omega)
theorem nxe {L : Nat → Nat} {lz p : Nat} (hz : lrn L lz = 0) (hp : lrn L p = 0) (h : p < lz) : ∃ e, p ≤ e ∧ e < lz ∧ L e = 59 ∧ ∀ j, p ≤ j → j < e → ¬ L j = 59 := by
  rcases fse L p (lz - p) with ⟨e, h1, h2, h3, h4⟩ | q
  · exact ⟨e, h1, by omega, h3, h4⟩
  · exfalso
    have h2 := (nose (L := L) (n := 0) (dn := 0) (lz := 0) (p := p) (lz - p) q).2.1
    rw [show p + (lz - p) = lz by omega, lst_0 hz, lst_0 hp] at h2
    omega
theorem scn_mono {L : Nat → Nat} {p : Nat} : ∀ d, scn L p ≤ scn L (p + d)
  | 0 => Nat.le_refl _
  | d + 1 => by
    have h := scn_mono (L := L) (p := p) d
    show scn L p ≤ scn L (p + d) + _
    omega
theorem lrn_se {L : Nat → Nat} {z e : Nat} (h : lrn L z ≠ 9) (he : e < z) (hs : L e = 59) : lrn L (e + 1) = 0 := by
  have h9 := lrn_le (p := e + 1) h (by omega)
  have hr := RNV_r (L := L) (e + 1) h9
  rw [lst_y hs] at hr
  unfold RNV at hr
  omega
theorem no_in {L : Nat → Nat} {s e : Nat} (h : STM L s e) : ∀ j, s ≤ j → j < e → ¬ L j = 59 := by
  intro j h1 h2
  have hd : ∀ x, dig x → ¬ x = 59 := fun x hx => (dg_ne hx).1
  rcases h with ⟨a, b, d1, d2, d3⟩ | ⟨a, ⟨b, d1⟩ | ⟨b, d1, d2⟩⟩
  · by_cases e0 : j = s
    · rw [e0]; omega
    · by_cases e1 : j = s + 1
      · rw [e1]; exact hd _ d1
      · by_cases e2 : j = s + 2
        · rw [e2]; exact hd _ d2
        · rw [show j = s + 3 by omega]; exact hd _ d3
  · by_cases e0 : j = s
    · rw [e0]; omega
    · rw [show j = s + 1 by omega]; exact hd _ d1
  · by_cases e0 : j = s
    · rw [e0]; omega
    · by_cases e1 : j = s + 1
      · rw [e1]; exact hd _ d1
      · rw [show j = s + 2 by omega]; exact hd _ d2
theorem lrn_st {L : Nat → Nat} {s e : Nat} (h0 : lrn L s = 0) (h : STM L s e) (hs : L e = 59) : lrn L (e + 1) = 0 := by
  rcases h with ⟨a, b, d1, d2, d3⟩ | ⟨a, ⟨b, d1⟩ | ⟨b, d1, d2⟩⟩
  · subst b
    have r1 : lrn L (s + 1) = 1 := by rw [lrn_s h0, lsp_0, if_pos a]
    have r2 : lrn L (s + 2) = 2 := by rw [lrn_s r1, lsp_1, if_pos (dig_d d1)]
    have r3 : lrn L (s + 3) = 3 := by rw [lrn_s r2, lsp_2, if_pos (dig_d d2)]
    have r4 : lrn L (s + 4) = 4 := by rw [lrn_s r3, lsp_3, if_pos (dig_d d3)]
    rw [lrn_s r4, lsp_4, if_pos hs]
  · subst b
    have r1 : lrn L (s + 1) = 5 := by rw [lrn_s h0, lsp_0, if_neg (by omega), if_pos a]
    have r2 : lrn L (s + 2) = 6 := by rw [lrn_s r1, lsp_5, if_pos (dig_d d1)]
    rw [lrn_s r2, lsp_6, if_neg (by omega), if_pos hs]
  · subst b
    have r1 : lrn L (s + 1) = 5 := by rw [lrn_s h0, lsp_0, if_neg (by omega), if_pos a]
    have r2 : lrn L (s + 2) = 6 := by rw [lrn_s r1, lsp_5, if_pos (dig_d d1)]
    have r3 : lrn L (s + 3) = 4 := by rw [lrn_s r2, lsp_6, if_pos (dig_d d2)]
    rw [lrn_s r3, lsp_4, if_pos hs]
theorem PRS_s {L : Nat → Nat} {lz a k e : Nat} {lf laf td lf2 laf2 td2 : Nat → Int32} (h : PRS L lz a k lf laf td) (hst : STM L a e) (he : e < lz) (hs : L e = 59) (h1 : lf2 = upd lf k (nI (L a))) (h2 : laf2 = upd laf k (nI a)) (h3 : TLD L a e k td2) (h4 : ∀ j, j < 3 * k → td2 j = td j) : PRS L lz (e + 1) (k + 1) lf2 laf2 td2 := by
  obtain ⟨a1, a2, a3, a4, a5, a6⟩ := h
  have hse := (STM_k hst).2
  have hno := no_in hst
  have hee : e ≥ a + 2 := by
    rcases hst with q | ⟨-, q | q⟩ <;> omega
  obtain ⟨c1, c2, -, -⟩ := nose (L := L) (n := 0) (dn := 0) (lz := 0) (p := a) (e - a) (fun j q1 q2 => hno j q1 (by omega))
  rw [show a + (e - a) = e by omega] at c1 c2
  rw [lst_0 a2] at c2
  refine ⟨by omega, lrn_st a2 hst hs, by rw [scn_y hs, c1, a3], by omega, fun z => by omega, fun j hj hj9 => ?_⟩
  by_cases q : j = e
  · subst q
    rw [c1, c2, ← a3, h1, h2, pk_us, pk_us]
    exact ⟨by omega, rfl, rfl, h3⟩
  · have hja : j < a := Nat.lt_of_not_le fun z => hno j z (by omega) hj9
    obtain ⟨b1, b2, b3, b4⟩ := a6 j hja hj9
    rw [h1, h2, pk_un (by omega), pk_un (by omega)]
    refine ⟨by omega, b2, b3, fun z i hi => ?_, fun z => ?_⟩
    · rw [h4 _ (by omega)]; exact b4.1 z i hi
    · rw [h4 _ (by omega)]; exact b4.2 z
