/-- what comes of the letters -/
def lC (L : Nat → Nat) (s e : Nat) : Nat := if e = s + 3 then 10 * (L (s + 1) - 48) + (L (s + 2) - 48) else L (s + 1) - 48
def tUp (f : Nat → Nat) (k v j : Nat) : Nat := if j = k then v else f j
def tM (L : Nat → Nat) (n o : Nat) (K : Nat → Nat) : Nat → Nat → Nat
  | 0 => K
  | p + 1 => if L p = 59 ∧ L (lst L p) = 109 then tUp (tM L n o K p) (n + cm L p) (L (lst L p + o) - 48) else tM L n o K p
def tS (L : Nat → Nat) (S5 : Nat → Nat) : Nat → Nat → Nat
  | 0 => S5
  | p + 1 => if L p = 59 then (if L (lst L p) = 109 then tS L S5 p else if L (lst L p) = 108 then tUp (tUp (tUp (tS L S5 p) 1 (L (lst L p + 1) - 48)) 2 (L (lst L p + 2) - 48)) 3 (L (lst L p + 3) - 48) else tUp (tS L S5 p) 0 (lC L (lst L p) p)) else tS L S5 p
def scn (L : Nat → Nat) : Nat → Nat
  | 0 => 0
  | p + 1 => scn L p + (if L p = 59 then 1 else 0)
abbrev RGQ (L : Nat → Nat) (s m : Nat) (dn : Int32) : Prop := (L s = 109 → L (s + 1) - 48 ≤ 6 ∧ 1 ≤ L (s + 3) - 48 ∧ m ≤ 8 ∧ dn = 0) ∧ (L s = 108 → L (s + 1) - 48 ≤ 2 ∧ L (s + 2) - 48 ≤ 1 ∧ L (s + 3) - 48 ≤ 1)
abbrev RGS (L : Nat → Nat) (n : Nat) (dn : Int32) (e : Nat) : Prop := RGQ L (lst L e) (n + cm L (e + 1)) dn
def fwr (L : Nat → Nat) (n : Nat) (dn : Int32) : Nat → Nat → Int32
  | _, 0 => -9
  | p, k + 1 => if L p = 59 ∧ ¬ RGS L n dn p then nI (lst L p) else fwr L n dn (p + 1) k
theorem fwr_s {L : Nat → Nat} {n : Nat} {dn : Int32} {p z : Nat} (h : p < z) : fwr L n dn p (z - p) = if L p = 59 ∧ ¬ RGS L n dn p then nI (lst L p) else fwr L n dn (p + 1) (z - (p + 1)) := by
  rw [show z - p = (z - (p + 1)) + 1 by omega]; rfl
theorem nI_n9 {k : Nat} (h : k ≤ 64) : ¬ nI k = -9 := fun q => absurd (show nI k < 0 by rw [q]; decide) (nI_pos (by omega))
theorem nI_n9' {k : Nat} (h : k ≤ 64) : ¬ nI k < 0 := nI_pos (by omega)
theorem fwr_9 {L : Nat → Nat} {n : Nat} {dn : Int32} : ∀ (k p : Nat), p + k ≤ 64 → fwr L n dn p k = -9 → ∀ e, p ≤ e → e < p + k → L e = 59 → RGS L n dn e
  | 0, p, _, _, e, h1, h2, _ => by omega
  | k + 1, p, hz, h, e, h1, h2, h3 => by
    unfold fwr at h
    by_cases q : L p = 59 ∧ ¬ RGS L n dn p
    · rw [if_pos q] at h; exact absurd h (nI_n9 (by have := lst_le L p; omega))
    · rw [if_neg q] at h
      by_cases e2 : e = p
      · subst e2; exact Classical.byContradiction fun z => q ⟨h3, z⟩
      · exact fwr_9 k (p + 1) (by omega) h e (by omega) (by omega) h3
theorem fwr_b {L : Nat → Nat} {n : Nat} {dn : Int32} : ∀ (k p : Nat), p + k ≤ 64 → fwr L n dn p k = -9 ∨ ∃ j, j < 64 ∧ fwr L n dn p k = nI j
  | 0, p, _ => Or.inl rfl
  | k + 1, p, hz => by
    unfold fwr
    by_cases q : L p = 59 ∧ ¬ RGS L n dn p
    · rw [if_pos q]; exact Or.inr ⟨_, by have := lst_le L p; omega, rfl⟩
    · rw [if_neg q]; exact fwr_b k (p + 1) (by omega)
theorem fps_b (L : Nat → Nat) : ∀ (k p : Nat), p ≤ fps L p k ∧ fps L p k ≤ p + k
  | 0, p => ⟨Nat.le_refl _, Nat.le_refl _⟩
  | k + 1, p => by
    unfold fps
    by_cases q : lrn L (p + 1) = 9
    · rw [if_pos q]; omega
    · rw [if_neg q]; have := fps_b L k (p + 1); omega
abbrev BOK (L : Nat → Nat) (lz n : Nat) (dn : Int32) : Prop := (lrn L lz = 0 ∧ 0 < lz) ∧ fwr L n dn 0 lz = -9
def brR (L : Nat → Nat) (lz : Nat) : Int32 := if lrn L lz = 0 ∧ 0 < lz then -9 else nI (fps L 0 lz)
def flR (L : Nat → Nat) (lz n : Nat) (dn : Int32) : Int32 := if lrn L lz = 0 ∧ 0 < lz then (if fwr L n dn 0 lz = -9 then 0 else -2000 - fwr L n dn 0 lz) else -1000 - nI (fps L 0 lz)
def bcR (L : Nat → Nat) (lz n : Nat) (dn : Int32) : Int32 := if BOK L lz n dn then nI (scn L lz) else flR L lz n dn
def bcN (L : Nat → Nat) (lz n : Nat) (dn : Int32) : Nat := if BOK L lz n dn then n + cm L lz else n
def bcM (L : Nat → Nat) (lz n : Nat) (dn : Int32) (o : Nat) (K : Nat → Nat) : Nat → Nat := if BOK L lz n dn then tM L n o K lz else K
def bcS (L : Nat → Nat) (lz n : Nat) (dn : Int32) (S5 : Nat → Nat) : Nat → Nat := if BOK L lz n dn then tS L S5 lz else S5
theorem flR_0 {L : Nat → Nat} {lz n : Nat} {dn : Int32} (hz : lz ≤ 64) : flR L lz n dn = 0 ↔ BOK L lz n dn := by
  unfold flR BOK
  by_cases h : lrn L lz = 0 ∧ 0 < lz
  · rw [if_pos h]
    rcases fwr_b (L := L) (n := n) (dn := dn) lz 0 (by omega) with q | ⟨j, j1, j2⟩
    · rw [if_pos q]; exact ⟨fun _ => ⟨h, q⟩, fun _ => rfl⟩
    · rw [if_neg (by rw [j2]; exact nI_n9 (by omega)), j2]
      refine ⟨fun z => absurd z ?_, fun z => absurd z.2 (nI_n9 (by omega))⟩
      rw [show (-2000 : Int32) = iI (-2000) from rfl, nI_iI, iI_sub]
      intro z
      have := (iI_eq (a := -2000 - (j : Int)) (b := 0) (by unfold sm; omega) (by unfold sm; omega)).mp z
      omega
  · rw [if_neg h]
    refine ⟨fun z => absurd z ?_, fun z => absurd z.1 h⟩
    have := fps_b L lz 0
    rw [show (-1000 : Int32) = iI (-1000) from rfl, nI_iI, iI_sub]
    intro z
    have := (iI_eq (a := -1000 - (fps L 0 lz : Int)) (b := 0) (by unfold sm; omega) (by unfold sm; omega)).mp z
    omega
theorem dgv {x : Nat} (h : dig x) : nI x - 48 = nI (x - 48) := pk_sub (a := x) (b := 48) h.1
theorem dg_ne {x : Nat} (h : dig x) : ¬ x = 59 ∧ ¬ x = 109 ∧ ¬ x = 108 ∧ ¬ x = 99 := by unfold dig at h; omega
theorem lst_no {L : Nat → Nat} {p : Nat} (h : ¬ L p = 59) : lst L (p + 1) = lst L p := if_neg h
theorem lst_y {L : Nat → Nat} {p : Nat} (h : L p = 59) : lst L (p + 1) = p + 1 := if_pos h
theorem cm_no {L : Nat → Nat} {p : Nat} (h : ¬ (L p = 59 ∧ L (lst L p) = 109)) : cm L (p + 1) = cm L p := by show cm L p + _ = _; rw [if_neg h, Nat.add_zero]
theorem cm_y {L : Nat → Nat} {p : Nat} (h : L p = 59) (h2 : L (lst L p) = 109) : cm L (p + 1) = cm L p + 1 := by show cm L p + _ = _; rw [if_pos ⟨h, h2⟩]
theorem tM_no {L K : Nat → Nat} {n o p : Nat} (h : ¬ (L p = 59 ∧ L (lst L p) = 109)) : tM L n o K (p + 1) = tM L n o K p := if_neg h
theorem tM_y {L K : Nat → Nat} {n o p : Nat} (h : L p = 59) (h2 : L (lst L p) = 109) : tM L n o K (p + 1) = tUp (tM L n o K p) (n + cm L p) (L (lst L p + o) - 48) := if_pos ⟨h, h2⟩
theorem tS_no {L S5 : Nat → Nat} {p : Nat} (h : ¬ L p = 59) : tS L S5 (p + 1) = tS L S5 p := if_neg h
theorem tS_m {L S5 : Nat → Nat} {p : Nat} (h : L p = 59) (h2 : L (lst L p) = 109) : tS L S5 (p + 1) = tS L S5 p := by show (if L p = 59 then _ else _) = _; rw [if_pos h, if_pos h2]
theorem tS_l {L S5 : Nat → Nat} {p : Nat} (h : L p = 59) (h2 : L (lst L p) = 108) : tS L S5 (p + 1) = tUp (tUp (tUp (tS L S5 p) 1 (L (lst L p + 1) - 48)) 2 (L (lst L p + 2) - 48)) 3 (L (lst L p + 3) - 48) := by show (if L p = 59 then _ else _) = _; rw [if_pos h, if_neg (by omega), if_pos h2]
theorem tS_c {L S5 : Nat → Nat} {p : Nat} (h : L p = 59) (h2 : L (lst L p) = 99) : tS L S5 (p + 1) = tUp (tS L S5 p) 0 (lC L (lst L p) p) := by show (if L p = 59 then _ else _) = _; rw [if_pos h, if_neg (by omega), if_neg (by omega)]
theorem scn_no {L : Nat → Nat} {p : Nat} (h : ¬ L p = 59) : scn L (p + 1) = scn L p := by show scn L p + _ = _; rw [if_neg h, Nat.add_zero]
theorem scn_y {L : Nat → Nat} {p : Nat} (h : L p = 59) : scn L (p + 1) = scn L p + 1 := by show scn L p + _ = _; rw [if_pos h]
theorem cm_le (L : Nat → Nat) : ∀ p, cm L p ≤ p
  | 0 => Nat.le_refl 0
  | p + 1 => by
    show cm L p + _ ≤ p + 1
    have := cm_le L p
    split <;> omega
theorem scn_le (L : Nat → Nat) : ∀ p, scn L p ≤ p
  | 0 => Nat.le_refl 0
  | p + 1 => by
    show scn L p + _ ≤ p + 1
    have := scn_le L p
    split <;> omega
/-- the evening as it comes of the letters before p -/
abbrev EVT (L : Nat → Nat) (p n sn : Nat) (dn : Int32) (K F W S5 : Nat → Nat) (kf ff wf stf : Nat → Int32) : Prop := EVS (n + cm L p) sn dn (tM L n 1 K p) (tM L n 2 F p) (tM L n 3 W p) (tS L S5 p) kf ff wf stf
theorem EVT_no {L : Nat → Nat} {p n sn : Nat} {dn : Int32} {K F W S5 : Nat → Nat} {kf ff wf stf : Nat → Int32} (h : EVT L p n sn dn K F W S5 kf ff wf stf) (hp : ¬ L p = 59) : EVT L (p + 1) n sn dn K F W S5 kf ff wf stf := by
  unfold EVT
  rw [cm_no (fun q => hp q.1), tM_no (fun q => hp q.1), tM_no (fun q => hp q.1), tM_no (fun q => hp q.1), tS_no hp]
  exact h
theorem EVT_m {L : Nat → Nat} {p n sn : Nat} {dn : Int32} {K F W S5 : Nat → Nat} {kf ff wf stf kf2 ff2 wf2 : Nat → Int32} (h : EVT L p n sn dn K F W S5 kf ff wf stf) (hp : L p = 59) (hm : L (lst L p) = 109) (hst : STM L (lst L p) p) (hr : RGS L n dn p) (hk : kf2 = upd kf (n + cm L p) (nI (L (lst L p + 1) - 48))) (hf : ff2 = upd ff (n + cm L p) (nI (L (lst L p + 2) - 48))) (hw : wf2 = upd wf (n + cm L p) (nI (L (lst L p + 3) - 48))) : EVT L (p + 1) n sn dn K F W S5 kf2 ff2 wf2 stf := by
  have hs : dig (L (lst L p + 1)) ∧ dig (L (lst L p + 2)) ∧ dig (L (lst L p + 3)) := by
    rcases hst with q | q
    · exact q.2.2
    · exact absurd q.1 (by omega)
  obtain ⟨r1, r2, r3, r4⟩ := hr.1 hm
  obtain ⟨⟨e1, e2, e3, e4⟩, f1, f2, f3, f4⟩ := h
  unfold EVT
  rw [tM_y hp hm, tM_y hp hm, tM_y hp hm, tS_m hp hm]
  have hc := cm_y hp hm
  obtain ⟨⟨d1, d1'⟩, ⟨d2, d2'⟩, ⟨d3, d3'⟩⟩ := hs
  refine ⟨⟨r3, e2, e3, fun j hj => ?_⟩, f1, f2, by omega, f4⟩
  unfold tUp
  rw [hk, hf, hw]
  by_cases e : j = n + cm L p
  · rw [if_pos e, if_pos e, if_pos e, e, pk_us, pk_us, pk_us]
    exact ⟨⟨rfl, r1⟩, ⟨rfl, by omega⟩, ⟨rfl, r2, by omega⟩⟩
  · rw [if_neg e, if_neg e, if_neg e, pk_un e, pk_un e, pk_un e]
    exact e4 j (by omega)
theorem EVT_l {L : Nat → Nat} {p n sn : Nat} {dn : Int32} {K F W S5 : Nat → Nat} {kf ff wf stf stf2 : Nat → Int32} (h : EVT L p n sn dn K F W S5 kf ff wf stf) (hp : L p = 59) (hm : L (lst L p) = 108) (hr : RGS L n dn p) (hs : stf2 = upd (upd (upd stf 1 (nI (L (lst L p + 1) - 48))) 2 (nI (L (lst L p + 2) - 48))) 3 (nI (L (lst L p + 3) - 48))) : EVT L (p + 1) n sn dn K F W S5 kf ff wf stf2 := by
  obtain ⟨r1, r2, r3⟩ := hr.2 hm
  obtain ⟨⟨e1, e2, e3, e4⟩, f1, f2, f3, f4⟩ := h
  unfold EVT
  have hn : ¬ (L p = 59 ∧ L (lst L p) = 109) := by omega
  rw [cm_no hn, tM_no hn, tM_no hn, tM_no hn, tS_l hp hm]
  refine ⟨⟨e1, e2, ?_, e4⟩, fun k hk => ?_, ⟨?_, ?_, ?_, f2.2.2.2⟩, f3, f4⟩
  · rw [hs, pk_un (by omega), pk_un (by omega), pk_un (by omega)]; exact e3
  · rw [hs]; unfold tUp
    by_cases q3 : k = 3
    · rw [if_pos q3, q3, pk_us]
    · rw [if_neg q3, pk_un q3]
      by_cases q2 : k = 2
      · rw [if_pos q2, q2, pk_us]
      · rw [if_neg q2, pk_un q2]
        by_cases q1 : k = 1
        · rw [if_pos q1, q1, pk_us]
        · rw [if_neg q1, pk_un q1]; exact f1 k hk
  · exact r1
  · exact r2
  · exact r3
theorem lC_le {L : Nat → Nat} {s e : Nat} (h : STM L s e) (hm : L s = 99) : lC L s e ≤ 99 := by
  unfold lC
  rcases h with h | ⟨-, ⟨h1, h2⟩ | ⟨h1, h2, h3⟩⟩
  · exfalso; have := h.1; omega
  · rw [if_neg (by omega)]; unfold dig at h2; omega
  · rw [if_pos (by omega)]; unfold dig at h2 h3; omega
theorem EVT_c {L : Nat → Nat} {p n sn : Nat} {dn : Int32} {K F W S5 : Nat → Nat} {kf ff wf stf stf2 : Nat → Int32} (h : EVT L p n sn dn K F W S5 kf ff wf stf) (hp : L p = 59) (hm : L (lst L p) = 99) (hst : STM L (lst L p) p) (hs : stf2 = upd stf 0 (nI (lC L (lst L p) p))) : EVT L (p + 1) n sn dn K F W S5 kf ff wf stf2 := by
  obtain ⟨⟨e1, e2, e3, e4⟩, f1, f2, f3, f4⟩ := h
  unfold EVT
  have hn : ¬ (L p = 59 ∧ L (lst L p) = 109) := by omega
  rw [cm_no hn, tM_no hn, tM_no hn, tM_no hn, tS_c hp hm]
  refine ⟨⟨e1, lC_le hst hm, ?_, e4⟩, fun k hk => ?_, f2, f3, f4⟩
  · rw [hs, pk_us]; rfl
  · rw [hs]; unfold tUp
    by_cases q1 : k = 0
    · rw [if_pos q1, q1, pk_us]
    · rw [if_neg q1, pk_un q1]; exact f1 k hk
theorem STM_k {L : Nat → Nat} {s e : Nat} (h : STM L s e) : (L s = 109 ∨ L s = 108 ∨ L s = 99) ∧ s < e := by
  rcases h with h | ⟨h, h2⟩
  · exact ⟨h.1.elim Or.inl (fun q => Or.inr (Or.inl q)), by omega⟩
  · exact ⟨Or.inr (Or.inr h), by omega⟩
theorem STM_d {L : Nat → Nat} {s e : Nat} (h : STM L s e) (hm : L s = 109 ∨ L s = 108) : e = s + 4 ∧ dig (L (s + 1)) ∧ dig (L (s + 2)) ∧ dig (L (s + 3)) := by
  rcases h with h | ⟨h, h2⟩
  · exact h.2
  · omega
theorem STM_c {L : Nat → Nat} {s e : Nat} (h : STM L s e) (hm : L s = 99) : (e = s + 2 ∧ dig (L (s + 1))) ∨ (e = s + 3 ∧ dig (L (s + 1)) ∧ dig (L (s + 2))) := by
  rcases h with h | ⟨h, h2⟩
  · exfalso; have := h.1; omega
  · exact h2
/-- feed -/
def feA (lz : Nat) (v : Int32) : Prop := ¬ v < 0 ∧ ¬ 255 < v ∧ lz < 64
def feR (lz : Nat) (v : Int32) : Int32 := if v < 0 then -4 else if 255 < v then -6 else if 64 ≤ lz then -6 else nI (lz + 1)
def feZ (lz : Nat) (v : Int32) : Nat := if v < 0 then lz else if 255 < v then lz else if 64 ≤ lz then lz else lz + 1
def feL (L : Nat → Nat) (lz : Nat) (v : Int32) : Nat → Nat := tUp L lz v.toNatClampNeg
theorem fe_v {v : Int32} (h0 : ¬ v < 0) (h1 : ¬ 255 < v) : ∃ x, x ≤ 255 ∧ v = nI x := by
  obtain ⟨x, x1, x2⟩ := ix_of (n := 256) (by omega) h0 (fun z => h1 (Int32.lt_of_lt_of_le (by decide) z))
  exact ⟨x, by omega, x2⟩
theorem vc_n {q : Nat} (h : q < 65536) : vp_nar .char (nI q) = nI q := by
  unfold vp_nar
  rw [(pk_charN h).1]
theorem LTR_no {L : Nat → Nat} {lz : Nat} {sg : Nat → Int32} {v : Int32} (h : LTR lz L sg) (hn : ¬ feA lz v) : feZ lz v = lz ∧ LTR (feZ lz v) (feL L lz v) sg := by
  have e : feZ lz v = lz := by
    unfold feZ
    by_cases a : v < 0
    · rw [if_pos a]
    · by_cases b : 255 < v
      · rw [if_neg a, if_pos b]
      · by_cases d : 64 ≤ lz
        · rw [if_neg a, if_neg b, if_pos d]
        · exact absurd ⟨a, b, by omega⟩ hn
  rw [e]
  refine ⟨rfl, h.1, fun k hk => ?_⟩
  unfold feL tUp
  rw [if_neg (by omega)]
  exact h.2 k hk
theorem LTR_y {L : Nat → Nat} {lz : Nat} {sg sg2 : Nat → Int32} {v : Int32} (h : LTR lz L sg) (hn : feA lz v) (h2 : sg2 = upd sg lz v) : feZ lz v = lz + 1 ∧ LTR (feZ lz v) (feL L lz v) sg2 ∧ feR lz v = nI (lz + 1) := by
  obtain ⟨a, b, d⟩ := hn
  have e : feZ lz v = lz + 1 := by unfold feZ; rw [if_neg a, if_neg b, if_neg (by omega)]
  rw [e]
  refine ⟨rfl, ⟨by omega, fun k hk => ?_⟩, by unfold feR; rw [if_neg a, if_neg b, if_neg (by omega)]⟩
  unfold feL tUp
  rw [h2]
  obtain ⟨x, x1, x2⟩ := fe_v a b
  by_cases q : k = lz
  · rw [if_pos q, q, pk_us, x2, nI_clamp (by omega)]; exact ⟨rfl, x1⟩
  · rw [if_neg q, pk_un q]; exact h.2 k (by omega)
theorem cst_9 {q : Nat} {a b d : Int32} (h : CST q a b d) : q ≠ 9 := by
  unfold CST at h; omega
theorem cst_n {q : Nat} {b d : Int32} (h : CST q 0 b d) : q ≠ 0 := by
  rcases h with ⟨-, h⟩ | h | h | h | h | h | h
  · exact absurd h (by decide)
  all_goals omega
theorem cst_f {L : Nat → Nat} {lz p : Nat} {a b d : Int32} (hf : fps L 0 lz = fps L p (lz - p)) (hp : p < lz) (h : CST (lrn L (p + 1)) a b d) : fps L 0 lz = fps L (p + 1) (lz - (p + 1)) := by
  rw [hf, fps_s hp, if_neg (cst_9 h)]
theorem cst_r {L : Nat → Nat} {lz p : Nat} (hf : fps L 0 lz = fps L p (lz - p)) (hp : p < lz) (h : lrn L (p + 1) = 9) : nI p = brR L lz := by
  unfold brR
  rw [if_neg (fun z => lrn_le (p := p + 1) (z := lz) (by rw [z.1]; decide) (by omega) h), hf, fps_s hp, if_pos h]
theorem nI_b0 {x : Nat} {k : Nat} (hx : x ≤ 255) (hk : k ≤ 255) : nI x = nI k ↔ x = k := nI_eq (by omega) (by omega)
theorem lc_v {a b : Nat} (ha : dig a) (hb : dig b) : (nI a - 48) * 10 + (nI b - 48) = nI (10 * (a - 48) + (b - 48)) := by
  rw [dgv ha, dgv hb, show (10 : Int32) = nI 10 from rfl, pk_mul, nI_add, Nat.mul_comm]
