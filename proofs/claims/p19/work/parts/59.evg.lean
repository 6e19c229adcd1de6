/-- whether the evening is over -/
abbrev OVR (n : Nat) (dn : Int32) : Prop := n = 0 ∨ dn = 1
theorem nI_z {n : Nat} (hn : n ≤ 8) : nI n = 0 ↔ n = 0 := by
  constructor
  · intro h
    exact (nI_eq (a := n) (b := 0) (by omega) (by omega)).mp h
  · intro h; subst h; rfl
theorem ovx_y {n : Nat} {dn r : Int32} (hn : n ≤ 8) (hd : dn = 0 ∨ dn = 1) (h : r = if nI n = 0 then 1 else if dn = 0 then 0 else 1) (hr : r ≠ 0) : OVR n dn := by
  by_cases h1 : nI n = 0
  · exact Or.inl ((nI_z hn).mp h1)
  · rcases hd with e | e
    · rw [if_neg h1, if_pos e] at h; exact absurd h hr
    · exact Or.inr e
theorem ovx_n {n : Nat} {dn r : Int32} (h : r = if nI n = 0 then 1 else if dn = 0 then 0 else 1) (hr : r = 0) : ¬ OVR n dn := by
  rintro (e | e)
  · subst e; rw [if_pos (show nI 0 = 0 from rfl), hr] at h; exact absurd h (by decide)
  · subst e
    by_cases h1 : nI n = 0
    · rw [if_pos h1, hr] at h; exact absurd h (by decide)
    · rw [if_neg h1, if_neg (by decide), hr] at h; exact absurd h (by decide)
theorem ovm_y {n : Nat} {dn r : Int32} (hn : n ≤ 8) (h : r = if nI n = 0 then 1 else if dn = 1 then 1 else 0) (hr : r ≠ 0) : OVR n dn := by
  by_cases h1 : nI n = 0
  · exact Or.inl ((nI_z hn).mp h1)
  · by_cases e : dn = 1
    · exact Or.inr e
    · rw [if_neg h1, if_neg e] at h; exact absurd h hr
theorem ovm_n {n : Nat} {dn r : Int32} (h : r = if nI n = 0 then 1 else if dn = 1 then 1 else 0) (hr : r = 0) : ¬ OVR n dn := by
  rintro (e | e)
  · subst e; rw [if_pos (show nI 0 = 0 from rfl), hr] at h; exact absurd h (by decide)
  · subst e
    by_cases h1 : nI n = 0
    · rw [if_pos h1, hr] at h; exact absurd h (by decide)
    · rw [if_neg h1, if_pos rfl, hr] at h; exact absurd h (by decide)
/-- the told row -/
def ROW (tz : Nat) (T : Nat → Nat) (tof : Nat → Int32) : Prop := tz ≤ 8 ∧ ∀ k, k < tz → tof k = nI (T k) ∧ T k ≤ 99
abbrev OKC (c : Int32) : Prop := ¬ c < 0 ∧ ¬ 99 < c
abbrev ROK (tz : Nat) (c : Int32) : Prop := OKC c ∧ tz < 8
def rowR (tz : Nat) (c : Int32) : Int32 := if c < 0 then -4 else if ROK tz c then nI (tz + 1) else -6
def rowZ (tz : Nat) (c : Int32) : Nat := if ROK tz c then tz + 1 else tz
def rowT (tz : Nat) (T : Nat → Nat) (c : Int32) (k : Nat) : Nat := if ROK tz c ∧ k = tz then c.toNatClampNeg else T k
theorem OKC_ix {c : Int32} (h : OKC c) : ∃ v, v ≤ 99 ∧ c = nI v := by
  obtain ⟨j, h1, h2⟩ := ix_of (n := 100) (by omega) h.1 (fun q => h.2 (Int32.lt_of_lt_of_le (by decide) q))
  exact ⟨j, by omega, h2⟩
theorem ROW_y {tz : Nat} {T : Nat → Nat} {tof tof2 : Nat → Int32} {c : Int32} (h : ROW tz T tof) (hc : ROK tz c) (ht : tof2 = upd tof tz c) : ROW (rowZ tz c) (rowT tz T c) tof2 := by
  unfold rowZ
  rw [if_pos hc]
  refine ⟨by have := hc.2; omega, fun k hk => ?_⟩
  unfold rowT
  by_cases e : k = tz
  · subst e
    obtain ⟨v, v1, v2⟩ := OKC_ix hc.1
    rw [if_pos ⟨hc, rfl⟩, ht, pk_us, v2, nI_clamp (by omega)]
    exact ⟨rfl, v1⟩
  · rw [if_neg (fun q => e q.2), ht, pk_un e]
    exact h.2 k (by omega)
theorem ROW_n {tz : Nat} {T : Nat → Nat} {tof : Nat → Int32} {c : Int32} (h : ROW tz T tof) (hc : ¬ ROK tz c) : ROW (rowZ tz c) (rowT tz T c) tof := by
  unfold rowZ
  rw [if_neg hc]
  refine ⟨h.1, fun k hk => ?_⟩
  unfold rowT
  rw [if_neg (fun q => hc q.1)]
  exact h.2 k hk
/-- whether the told row is an offer -/
abbrev RGT (n sn : Nat) (S5 : Nat → Nat) (tz : Nat) (T : Nat → Nat) : Prop := tz = n - sn ∧ sumr T 0 tz = S5 0
def jdR (n sn : Nat) (dn : Int32) (S5 : Nat → Nat) (tz : Nat) (T : Nat → Nat) (pl : PLT) (v : Int32) : Int32 := if OVR n dn then -3 else if v < 0 then -4 else if RGT n sn S5 tz T then fov (BAD sn v T (zP pl sn)) 0 (n - sn) else 0
abbrev CRD (n sn : Nat) (W : Nat → Nat) (law y : Int32) : Prop := nd law (sumr W sn (n - sn)) ≤ yw W y sn (n - sn)
def dcr (n sn : Nat) (W : Nat → Nat) (law y : Int32) : Int32 := if CRD n sn W law y then 1 else 0
def dcs (n sn : Nat) (W : Nat → Nat) (law y : Int32) : Nat := if CRD n sn W law y then sn else if sn + 1 < n then sn + 1 else sn
def dcd (n sn : Nat) (dn : Int32) (W : Nat → Nat) (law y : Int32) : Int32 := if CRD n sn W law y then 1 else if sn + 1 < n then dn else 1
def dcp (n sn : Nat) (W : Nat → Nat) (law y : Int32) (off P : Nat → Int32) (j : Nat) : Int32 := if CRD n sn W law y then (if sn ≤ j ∧ j < n then off j else P j) else if j = sn then -1 else P j
theorem DCD_f {n sn : Nat} {dn : Int32} {W : Nat → Nat} {law y : Int32} {off off2 pf pg : Nat → Int32} {sy2 dn2 : Int32} (h : DCD n sn dn W law y off pf pg sy2 dn2) (ho : ∀ j, sn ≤ j → j < n → off j = off2 j) : sy2 = nI (dcs n sn W law y) ∧ dn2 = dcd n sn dn W law y ∧ ∀ j, j < 8 → pg j = dcp n sn W law y off2 pf j := by
  unfold dcs dcd dcp
  by_cases hc : CRD n sn W law y
  · obtain ⟨h1, h2, h3⟩ := h.1 hc
    rw [if_pos hc, if_pos hc]
    refine ⟨h1, h2, fun j hj => ?_⟩
    rw [if_pos hc, h3 j hj]
    by_cases e : sn ≤ j ∧ j < n
    · rw [if_pos e, if_pos e, ho j e.1 e.2]
    · rw [if_neg e, if_neg e]
  · obtain ⟨h1, h2, h3⟩ := h.2 hc
    rw [if_neg hc, if_neg hc]
    by_cases e : sn + 1 < n
    · rw [if_pos e, if_pos e]
      exact ⟨(h2 e).1, (h2 e).2, fun j hj => by rw [if_neg hc]; exact h1 j hj⟩
    · rw [if_neg e, if_neg e]
      exact ⟨(h3 e).1, (h3 e).2, fun j hj => by rw [if_neg hc]; exact h1 j hj⟩
/-- goes -/
abbrev GOK (n sn : Nat) (dn : Int32) (S5 : Nat → Nat) (tz : Nat) (T : Nat → Nat) (v : Int32) : Prop := ¬ OVR n dn ∧ RGT n sn S5 tz T ∧ ¬ v < 0
def goR (n sn : Nat) (dn : Int32) (W S5 : Nat → Nat) (tz : Nat) (T : Nat → Nat) (v : Int32) : Int32 := if ¬ OVR n dn ∧ RGT n sn S5 tz T then (if v < 0 then -4 else dcr n sn W (nI (S5 1)) v) else -3
def goS (n sn : Nat) (dn : Int32) (W S5 : Nat → Nat) (tz : Nat) (T : Nat → Nat) (v : Int32) : Nat := if GOK n sn dn S5 tz T v then dcs n sn W (nI (S5 1)) v else sn
def goD (n sn : Nat) (dn : Int32) (W S5 : Nat → Nat) (tz : Nat) (T : Nat → Nat) (v : Int32) : Int32 := if GOK n sn dn S5 tz T v then dcd n sn dn W (nI (S5 1)) v else dn
def goP (n sn : Nat) (dn : Int32) (W S5 : Nat → Nat) (tz : Nat) (T : Nat → Nat) (v : Int32) (P : Nat → Int32) (j : Nat) : Int32 := if GOK n sn dn S5 tz T v then dcp n sn W (nI (S5 1)) v (fun j => nI (T (j - sn))) P j else P j
def goZ (n sn : Nat) (dn : Int32) (S5 : Nat → Nat) (tz : Nat) (T : Nat → Nat) (v : Int32) : Nat := if GOK n sn dn S5 tz T v then 0 else tz
def GOPT (n sn : Nat) (dn : Int32) (W S5 : Nat → Nat) (tz : Nat) (T : Nat → Nat) (v : Int32) (pf : Nat → Int32) (r sy2 dn2 ts2 : Int32) (pg : Nat → Int32) : Prop :=
  r = goR n sn dn W S5 tz T v ∧ sy2 = nI (goS n sn dn W S5 tz T v) ∧ dn2 = goD n sn dn W S5 tz T v ∧ ts2 = nI (goZ n sn dn S5 tz T v) ∧ ∀ j, j < 8 → pg j = goP n sn dn W S5 tz T v pf j
theorem GO_n {n sn : Nat} {dn : Int32} {W S5 : Nat → Nat} {tz : Nat} {T : Nat → Nat} {v : Int32} {pf : Nat → Int32} {r : Int32} (h : ¬ GOK n sn dn S5 tz T v) (hr : r = goR n sn dn W S5 tz T v) : GOPT n sn dn W S5 tz T v pf r (nI sn) dn (nI tz) pf := by
  unfold GOPT goS goD goP goZ
  rw [if_neg h, if_neg h, if_neg h]
  exact ⟨hr, rfl, rfl, rfl, fun j _ => by rw [if_neg h]⟩
theorem GO_y {n sn : Nat} {dn : Int32} {W S5 : Nat → Nat} {tz : Nat} {T : Nat → Nat} {v : Int32} {off pf pg : Nat → Int32} {r sy2 dn2 law : Int32} (h : GOK n sn dn S5 tz T v) (hl : law = nI (S5 1)) (hr : r = if nd law (sumr W sn (n - sn)) ≤ yw W v sn (n - sn) then 1 else 0) (hd : DCD n sn dn W law v off pf pg sy2 dn2) (ho : ∀ j, sn ≤ j → j < n → off j = nI (T (j - sn))) : GOPT n sn dn W S5 tz T v pf r sy2 dn2 0 pg := by
  subst hl
  obtain ⟨h1, h2, h3⟩ := DCD_f hd ho
  unfold GOPT goR goS goD goP goZ
  rw [if_pos h, if_pos h, if_pos h, if_pos ⟨h.1, h.2.1⟩, if_neg h.2.2]
  exact ⟨hr, h1, h2, rfl, fun j hj => by rw [if_pos h]; exact h3 j hj⟩
theorem goR_1 {n sn : Nat} {dn : Int32} {W S5 : Nat → Nat} {tz : Nat} {T : Nat → Nat} {v : Int32} (h : ¬ (¬ OVR n dn ∧ RGT n sn S5 tz T)) : (-3 : Int32) = goR n sn dn W S5 tz T v := by
  unfold goR; rw [if_neg h]
theorem goR_2 {n sn : Nat} {dn : Int32} {W S5 : Nat → Nat} {tz : Nat} {T : Nat → Nat} {v : Int32} (h : ¬ OVR n dn ∧ RGT n sn S5 tz T) (hv : v < 0) : (-4 : Int32) = goR n sn dn W S5 tz T v := by
  unfold goR; rw [if_pos h, if_pos hv]
/-- says -/
def SYPT (n sn : Nat) (dn : Int32) (W S5 : Nat → Nat) (pl : PLT) (pf : Nat → Int32) (r sy2 dn2 : Int32) (pg : Nat → Int32) : Prop :=
  (OVR n dn → r = -3 ∧ sy2 = nI sn ∧ dn2 = dn ∧ ∀ j, j < 8 → pg j = pf j) ∧ (¬ OVR n dn → r = dcr n sn W (nI (S5 1)) (zY pl sn) ∧ sy2 = nI (dcs n sn W (nI (S5 1)) (zY pl sn)) ∧ dn2 = dcd n sn dn W (nI (S5 1)) (zY pl sn) ∧ ∀ j, j < 8 → pg j = dcp n sn W (nI (S5 1)) (zY pl sn) (fun j => nI (zO pl sn j)) pf j)
theorem SY_y {n sn : Nat} {dn : Int32} {W S5 : Nat → Nat} {pl : PLT} {off pf pg : Nat → Int32} {r sy2 dn2 law y : Int32} (h : ¬ OVR n dn) (hl : law = nI (S5 1)) (hy : y = zY pl sn) (hr : r = if nd law (sumr W sn (n - sn)) ≤ yw W y sn (n - sn) then 1 else 0) (hd : DCD n sn dn W law y off pf pg sy2 dn2) (ho : ∀ j, sn ≤ j → j < n → off j = nI (zO pl sn j)) : SYPT n sn dn W S5 pl pf r sy2 dn2 pg := by
  subst hl
  subst hy
  obtain ⟨h1, h2, h3⟩ := DCD_f (off2 := fun j => nI (zO pl sn j)) hd ho
  exact ⟨fun q => absurd q h, fun _ => ⟨hr, h1, h2, h3⟩⟩
/-- man -/
def rMan (n : Nat) (K F W : Nat → Nat) (i w : Int32) : Int32 := if OKI n i then (if w = 0 then nI (K i.toNatClampNeg) else if w = 1 then nI (F i.toNatClampNeg) else if w = 2 then nI (W i.toNatClampNeg) else -2) else -1
def rGot (n : Nat) (pf : Nat → Int32) (i : Int32) : Int32 := if OKI n i then pf i.toNatClampNeg else 1000000001
/-- set -/
abbrev SOK (w v : Int32) : Prop := ¬ w < 0 ∧ w < 5 ∧ ¬ v < 0 ∧ ¬ GV w.toNatClampNeg < v
def setR (S5 : Nat → Nat) (w v : Int32) : Int32 := if w < 0 then -2 else if 5 ≤ w then -2 else if v < 0 then -4 else if GV w.toNatClampNeg < v then -6 else nI (S5 w.toNatClampNeg)
def setS (S5 : Nat → Nat) (w v : Int32) (k : Nat) : Nat := if SOK w v ∧ k = w.toNatClampNeg then v.toNatClampNeg else S5 k
theorem GV_le {k : Nat} (h : k < 5) : GV k ≤ 99 ∧ (k = 1 → GV k = 2) ∧ (k = 2 → GV k = 1) ∧ (k = 3 → GV k = 1) := by
  rcases Nat.lt_or_ge k 1 with q | q
  · have e : k = 0 := by omega
    subst e; decide
  · rcases Nat.lt_or_ge k 2 with q2 | q2
    · have e : k = 1 := by omega
      subst e; decide
    · rcases Nat.lt_or_ge k 3 with q3 | q3
      · have e : k = 2 := by omega
        subst e; decide
      · rcases Nat.lt_or_ge k 4 with q4 | q4
        · have e : k = 3 := by omega
          subst e; decide
        · have e : k = 4 := by omega
          subst e; decide
theorem SOK_ix {w v : Int32} (h : SOK w v) : ∃ a b, a < 5 ∧ w = nI a ∧ b ≤ 99 ∧ v = nI b ∧ (a = 1 → b ≤ 2) ∧ (a = 2 → b ≤ 1) ∧ (a = 3 → b ≤ 1) := by
  obtain ⟨a, a1, a2⟩ := ix_of (n := 5) (by omega) h.1 (Int32.not_le.mpr h.2.1)
  subst a2
  have hv := h.2.2.2
  rw [nI_clamp (by omega)] at hv
  obtain ⟨g1, g2, g3, g4⟩ := GV_le a1
  obtain ⟨b, b1, b2⟩ := OKC_ix (c := v) ⟨h.2.2.1, fun q => hv (Int32.lt_of_le_of_lt g1 q)⟩
  subst b2
  refine ⟨a, b, a1, rfl, b1, rfl, fun e => ?_, fun e => ?_, fun e => ?_⟩
  · rw [g2 e] at hv
    exact Nat.le_of_not_lt fun z => hv (nI_lt (a := 2) z (by omega))
  · rw [g3 e] at hv
    exact Nat.le_of_not_lt fun z => hv (nI_lt (a := 1) z (by omega))
  · rw [g4 e] at hv
    exact Nat.le_of_not_lt fun z => hv (nI_lt (a := 1) z (by omega))
theorem EVS_set {n sn : Nat} {dn : Int32} {K F W S5 : Nat → Nat} {kf ff wf stf stf2 : Nat → Int32} {w v : Int32} (h : EVS n sn dn K F W S5 kf ff wf stf) (hk : SOK w v) (h2 : stf2 = upd stf w.toNatClampNeg v) : EVS n sn dn K F W (setS S5 w v) kf ff wf stf2 := by
  obtain ⟨a, b, a1, a2, b1, b2, c1, c2, c3⟩ := SOK_ix hk
  have hf : ∀ k, k < 5 → stf2 k = nI (setS S5 w v k) := by
    intro k hk5
    unfold setS
    rw [h2]
    by_cases e : k = w.toNatClampNeg
    · rw [if_pos ⟨hk, e⟩, e, pk_us, b2, nI_clamp (by omega)]
    · rw [if_neg (fun q => e q.2), pk_un e]; exact h.2.1 k hk5
  have hb : ∀ k, setS S5 w v k = if k = a then b else S5 k := by
    intro k
    unfold setS
    have ea : w.toNatClampNeg = a := by rw [a2]; exact nI_clamp (by omega)
    have eb : v.toNatClampNeg = b := by rw [b2]; exact nI_clamp (by omega)
    by_cases e : k = a
    · rw [if_pos ⟨hk, by rw [ea]; exact e⟩, if_pos e]; exact eb
    · rw [if_neg (fun q => e (by rw [← ea]; exact q.2)), if_neg e]
  obtain ⟨⟨e1, e2, e3, e4⟩, -, ⟨f1, f2, f3, f4⟩, f5, f6⟩ := h
  have h0 : setS S5 w v 0 ≤ 99 := by rw [hb]; split <;> omega
  refine ⟨⟨e1, h0, hf 0 (by omega), e4⟩, hf, ⟨?_, ?_, ?_, ?_⟩, f5, f6⟩
  · rw [hb]; split
    · rename_i e; exact c1 e.symm
    · exact f1
  · rw [hb]; split
    · rename_i e; exact c2 e.symm
    · exact f2
  · rw [hb]; split
    · rename_i e; exact c3 e.symm
    · exact f3
  · rw [hb]; split
    · omega
    · exact f4
theorem setS_n {S5 : Nat → Nat} {w v : Int32} (hk : ¬ SOK w v) : setS S5 w v = S5 := by
  funext k; unfold setS; rw [if_neg (fun q => hk q.1)]
theorem EVS_cp {n sn : Nat} {dn : Int32} {K F W S5 : Nat → Nat} {kf ff wf stf kf2 ff2 wf2 stf2 : Nat → Int32} (h : EVS n sn dn K F W S5 kf ff wf stf) (h1 : ∀ j, j < 8 → kf2 j = kf j) (h2 : ∀ j, j < 8 → ff2 j = ff j) (h3 : ∀ j, j < 8 → wf2 j = wf j) (h4 : ∀ j, j < 5 → stf2 j = stf j) : EVS n sn dn K F W S5 kf2 ff2 wf2 stf2 := by
  obtain ⟨⟨e1, e2, e3, e4⟩, f1, f2, f3, f4⟩ := h
  refine ⟨⟨e1, e2, by rw [h4 0 (by omega)]; exact e3, fun j hj => ?_⟩, fun k hk => by rw [h4 k hk]; exact f1 k hk, f2, f3, f4⟩
  rw [h1 j (by omega), h2 j (by omega), h3 j (by omega)]
  exact e4 j hj
theorem EVS_dc {n sn sn2 : Nat} {dn dn2 : Int32} {K F W S5 : Nat → Nat} {kf ff wf stf : Nat → Int32} (h : EVS n sn dn K F W S5 kf ff wf stf) (h1 : sn2 < n ∨ sn2 = 0) (h2 : dn2 = 0 ∨ dn2 = 1) : EVS n sn2 dn2 K F W S5 kf ff wf stf := ⟨h.1, h.2.1, h.2.2.1, h1, h2⟩
