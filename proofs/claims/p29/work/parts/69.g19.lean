section
/-! 69.gains -/
/-- one man more, ahead of all -/
def cns (a : Nat) (K : Nat → Nat) (q : Nat) : Nat := if q = 0 then a else K (q - 1)
theorem EVS_cns {n sn : Nat} {dn : Int32} {K F W S5 : Nat → Nat} {kf ff wf stf tk tf tw ts : Nat → Int32} (h : EVS n sn dn K F W S5 kf ff wf stf) (hn : n < 8) (h1 : ∀ q, q < n + 1 → tk q = nI (cns 0 K q)) (h2 : ∀ q, q < n + 1 → tf q = nI (cns 0 F q)) (h3 : ∀ q, q < n + 1 → tw q = nI (cns 1 W q)) (h4 : ∀ j, j < 5 → ts j = stf j) : EVS (n + 1) sn dn (cns 0 K) (cns 0 F) (cns 1 W) S5 tk tf tw ts := by
  obtain ⟨⟨e1, e2, e3, e4⟩, f1, f2, f3, f4⟩ := h
  refine ⟨⟨by omega, e2, by rw [h4 0 (by omega)]; exact e3, fun j hj => ?_⟩, fun k hk => by rw [h4 k hk]; exact f1 k hk, f2, by omega, f4⟩
  refine ⟨⟨h1 j hj, ?_⟩, ⟨h2 j hj, ?_⟩, h3 j hj, ?_, ?_⟩
  · unfold cns; split
    · omega
    · exact (e4 (j - 1) (by omega)).1.2
  · unfold cns; split
    · omega
    · exact (e4 (j - 1) (by omega)).2.1.2
  · unfold cns; split
    · omega
    · exact (e4 (j - 1) (by omega)).2.2.2.1
  · unfold cns; split
    · omega
    · exact (e4 (j - 1) (by omega)).2.2.2.2
theorem cns_s {a j : Nat} {K : Nat → Nat} {f g : Nat → Int32} {x : Int32} (h : ∀ q, q < j + 1 → f q = nI (cns a K q)) (hx : x = nI (K j)) (hg : g = upd f (j + 1) x) : ∀ q, q < j + 1 + 1 → g q = nI (cns a K q) := by
  intro q hq
  rw [hg]
  by_cases e : q = j + 1
  · subst e; rw [pk_us, hx]; unfold cns; rw [if_neg (by omega)]; congr 1
  · rw [pk_un e]; exact h q (by omega)
/-- who gains: a bit a man -/
def gnb (S T : Nat → Int32) : Nat → Int32
  | 0 => 0
  | j + 1 => if T j < S (j + 1) then gnb S T j ||| ((1 : Int32) <<< (nI j &&& 31)) else gnb S T j
theorem gnb_n {S T : Nat → Int32} {j : Nat} {x y : Int32} (hx : x = S (j + 1)) (hy : y = T j) (h : x ≤ y) : gnb S T (j + 1) = gnb S T j := by
  subst hx; subst hy
  exact if_neg (Int32.not_lt.mpr h)
theorem gnb_y {S T : Nat → Int32} {j : Nat} {x y : Int32} (hx : x = S (j + 1)) (hy : y = T j) (h : ¬ x ≤ y) : gnb S T (j + 1) = gnb S T j ||| ((1 : Int32) <<< (nI j &&& 31)) := by
  subst hx; subst hy
  exact if_pos (Int32.not_le.mp h)
noncomputable def rGns (n : Nat) (K F W S5 : Nat → Nat) : Int32 := if n = 0 ∨ 8 ≤ n then 0 else gnb (fun q => iI (zS (PO (n + 1) (cns 0 K) (cns 0 F) (cns 1 W) S5) 0 q)) (fun q => iI (zS (PO n K F W S5) 0 q)) n
theorem DIS_sym {ro rp rs so sp ss : Nat → Nat} (h : DIS ro rp rs so sp ss) : DIS so sp ss ro rp rs := fun q hq =>
  ⟨fun k hk => ⟨fun e => ((h k hk).1 q hq).1 e.symm, fun e => ((h k hk).2.1 q hq).1 e.symm, fun e => ((h k hk).2.2 q hq).1 e.symm⟩,
   fun k hk => ⟨fun e => ((h k hk).1 q hq).2.1 e.symm, fun e => ((h k hk).2.1 q hq).2.1 e.symm, fun e => ((h k hk).2.2 q hq).2.1 e.symm⟩,
   fun k hk => ⟨fun e => ((h k hk).1 q hq).2.2 e.symm, fun e => ((h k hk).2.1 q hq).2.2 e.symm, fun e => ((h k hk).2.2 q hq).2.2 e.symm⟩⟩
theorem cns_0 {a : Nat} {K : Nat → Nat} {f g : Nat → Int32} {x : Int32} (hx : x = nI a) (hg : g = upd f 0 x) : ∀ q, q < 0 + 1 → g q = nI (cns a K q) := by
  intro q hq
  have e : q = 0 := by omega
  subst e
  rw [hg, pk_us, hx]; rfl

set_option maxHeartbeats 1000000 in
set_option maxRecDepth 100000 in
/-- X11_gains -/
theorem c_X11_gains (l : Launch) (dC : Nat → ClassId) (dI : Nat → Nat → Nat) (aC : Nat → ClassId) (sz : Nat) (h0 : Nat) (xp : Nat) (xtp : Nat) (xn : Nat) (xt : Nat) (xk : Nat) (xl : Nat) (xc : Nat) (xo : Nat) (xto : Nat) (xr : Nat) (xch : Nat) (ts : Int32) (ik : Int32) (st : Int32) (po : Nat) (pp : Nat) (ps : Nat) (pa : Nat) (pe : Nat) (pb : Nat) (pk : Nat) (pu : Nat) (pw : Nat) (pq : Nat) (pt : Nat) (un : Int32) (fw : Int32) (ek : Nat) (ef : Nat) (ew : Nat) (ep : Nat) (es : Nat) (n : Nat) (sn : Nat) (dn : Int32) (kf : Nat → Int32) (ff : Nat → Int32) (wf : Nat → Int32) (stf : Nat → Int32) (K : Nat → Nat) (F : Nat → Nat) (W0 : Nat → Nat) (S5 : Nat → Nat) (L : List Nat) (g : Nat → Nat → Int32) (fo : Nat → Option Nat) (fp : Nat → Option Nat) (fs : Nat → Option Nat) (ro : Nat → Nat) (rp : Nat → Nat) (rs : Nat → Nat) (fk : Nat → Option Nat) (k0 : Nat) (k1 : Nat) (k2 : Nat) (k3 : Nat) (k4 : Nat) (k5 : Nat) (k6 : Nat) (uf : Nat → Int32) (vf : Nat → Int32) (qf : Nat → Int32) (tf : Nat → Int32) (bf : Nat → Int32) (yf : Nat → Int32) (ef0 : Nat → Int32) (pf : Nat → Int32) (tek : Nat) (tef : Nat) (tew : Nat) (tep : Nat) (tes : Nat) (tsz : Int32) (tsy : Int32) (tdn : Int32) (tkf : Nat → Int32) (tff : Nat → Int32) (twf : Nat → Int32) (tpf : Nat → Int32) (tsf : Nat → Int32) (tpo : Nat) (tpp : Nat) (tps : Nat) (tpa : Nat) (tpe : Nat) (tpb : Nat) (tpu : Nat) (tpw : Nat) (tpq : Nat) (tpt : Nat) (tun : Int32) (tfw : Int32) (tfo : Nat → Option Nat) (tfp : Nat → Option Nat) (tfs : Nat → Option Nat) (tro : Nat → Nat) (trp : Nat → Nat) (trs : Nat → Nat) (tuf : Nat → Int32) (tvf : Nat → Int32) (tqf : Nat → Int32) (ttf : Nat → Int32) (tbf : Nat → Int32) (tyf : Nat → Int32) (teg0 : Nat → Int32) (tG : Nat) (hgr : GRD L fo fp fs ro rp rs) (hev : EVS n sn dn K F W0 S5 kf ff wf stf) (hkd : KDS fk k0 k1 k2 k3 k4 k5 k6) (hst : STL st n (PO n K F W0 S5) ro rp rs g yf ef0 bf) (htg : GRD L tfo tfp tfs tro trp trs) (hdi : DIS ro rp rs tro trp trs) : Met l yX11_gains (wW yX11_gains cX11_gains 4 (some .int)) ({ frames := 7, cells := 0, slots := 0, locals := 151 } : Room) (va_Pc [Value.ref h0] (fun U => U.heap.size = sz ∧ va_P (dC, dI) classes (wp [oX11 h0 xp xtp xn xt xk xl xc xo xto xr xch ts ik st, oX9 xp po pp ps pa pe pb xn pk pu pw pq pt un fw, oX4 xn ek ef ew ep es (nI n) (nI sn) dn, cI aC ek 8 kf, cI aC ef 8 ff, cI aC ew 8 wf, cI aC es 5 stf, cA aC po 8 fo, cA aC pp 8 fp, cA aC ps 8 fs, cK aC pk 7 fk, cO k0 0 [], cO k1 1 [], cO k2 3 [], cO k3 5 [], cO k4 6 [], cO k5 10 [], cO k6 8 [], cI aC pa 8 yf, cI aC pe 8 ef0, cI aC pb 8 bf, cI aC pu 7 uf, cI aC pw 7 vf, cI aC pq 128 qf, cI aC pt 128 tf, cI aC ep 8 pf, oX4 xt tek tef tew tep tes tsz tsy tdn, cI aC tek 8 tkf, cI aC tef 8 tff, cI aC tew 8 twf, cI aC tep 8 tpf, cI aC tes 5 tsf, oX9 xtp tpo tpp tps tpa tpe tpb xt pk tpu tpw tpq tpt tun tfw, cA aC tpo 8 tfo, cA aC tpp 8 tfp, cA aC tps 8 tfs, cI aC tpa 8 tyf, cI aC tpe 8 teg0, cI aC tpb 8 tbf, cI aC tpu 7 tuf, cI aC tpw 7 tvf, cI aC tpq 128 tqf, cI aC tpt 128 ttf] (va_pl L (plE aC g))) U.heap ∧ va_K (dC, dI) classes (TY aC) U ∧ va_D (fun _ => True) (wp [oX11 h0 xp xtp xn xt xk xl xc xo xto xr xch ts ik st, oX9 xp po pp ps pa pe pb xn pk pu pw pq pt un fw, oX4 xn ek ef ew ep es (nI n) (nI sn) dn, cI aC ek 8 kf, cI aC ef 8 ff, cI aC ew 8 wf, cI aC es 5 stf, cA aC po 8 fo, cA aC pp 8 fp, cA aC ps 8 fs, cK aC pk 7 fk, cO k0 0 [], cO k1 1 [], cO k2 3 [], cO k3 5 [], cO k4 6 [], cO k5 10 [], cO k6 8 [], cI aC pa 8 yf, cI aC pe 8 ef0, cI aC pb 8 bf, cI aC pu 7 uf, cI aC pw 7 vf, cI aC pq 128 qf, cI aC pt 128 tf, cI aC ep 8 pf, oX4 xt tek tef tew tep tes tsz tsy tdn, cI aC tek 8 tkf, cI aC tef 8 tff, cI aC tew 8 twf, cI aC tep 8 tpf, cI aC tes 5 tsf, oX9 xtp tpo tpp tps tpa tpe tpb xt pk tpu tpw tpq tpt tun tfw, cA aC tpo 8 tfo, cA aC tpp 8 tfp, cA aC tps 8 tfs, cI aC tpa 8 tyf, cI aC tpe 8 teg0, cI aC tpb 8 tbf, cI aC tpu 7 tuf, cI aC tpw 7 tvf, cI aC tpq 128 tqf, cI aC tpt 128 ttf] (va_pl L (plE aC g))) ∧ NX U ∧ va_Z "EldestSays" "GREATEST" "[I" (.ref tG) (va_A (wp [oX11 h0 xp xtp xn xt xk xl xc xo xto xr xch ts ik st, oX9 xp po pp ps pa pe pb xn pk pu pw pq pt un fw, oX4 xn ek ef ew ep es (nI n) (nI sn) dn, cI aC ek 8 kf, cI aC ef 8 ff, cI aC ew 8 wf, cI aC es 5 stf, cA aC po 8 fo, cA aC pp 8 fp, cA aC ps 8 fs, cK aC pk 7 fk, cO k0 0 [], cO k1 1 [], cO k2 3 [], cO k3 5 [], cO k4 6 [], cO k5 10 [], cO k6 8 [], cI aC pa 8 yf, cI aC pe 8 ef0, cI aC pb 8 bf, cI aC pu 7 uf, cI aC pw 7 vf, cI aC pq 128 qf, cI aC pt 128 tf, cI aC ep 8 pf, oX4 xt tek tef tew tep tes tsz tsy tdn, cI aC tek 8 tkf, cI aC tef 8 tff, cI aC tew 8 twf, cI aC tep 8 tpf, cI aC tes 5 tsf, oX9 xtp tpo tpp tps tpa tpe tpb xt pk tpu tpw tpq tpt tun tfw, cA aC tpo 8 tfo, cA aC tpp 8 tfp, cA aC tps 8 tfs, cI aC tpa 8 tyf, cI aC tpe 8 teg0, cI aC tpb 8 tbf, cI aC tpu 7 tuf, cI aC tpw 7 tvf, cI aC tpq 128 tqf, cI aC tpt 128 ttf] (va_pl L (plE aC g))) sz) U U.heap ∧ va_T .int tG 5 (fun j => .int (GV j)) (va_A (wp [oX11 h0 xp xtp xn xt xk xl xc xo xto xr xch ts ik st, oX9 xp po pp ps pa pe pb xn pk pu pw pq pt un fw, oX4 xn ek ef ew ep es (nI n) (nI sn) dn, cI aC ek 8 kf, cI aC ef 8 ff, cI aC ew 8 wf, cI aC es 5 stf, cA aC po 8 fo, cA aC pp 8 fp, cA aC ps 8 fs, cK aC pk 7 fk, cO k0 0 [], cO k1 1 [], cO k2 3 [], cO k3 5 [], cO k4 6 [], cO k5 10 [], cO k6 8 [], cI aC pa 8 yf, cI aC pe 8 ef0, cI aC pb 8 bf, cI aC pu 7 uf, cI aC pw 7 vf, cI aC pq 128 qf, cI aC pt 128 tf, cI aC ep 8 pf, oX4 xt tek tef tew tep tes tsz tsy tdn, cI aC tek 8 tkf, cI aC tef 8 tff, cI aC tew 8 twf, cI aC tep 8 tpf, cI aC tes 5 tsf, oX9 xtp tpo tpp tps tpa tpe tpb xt pk tpu tpw tpq tpt tun tfw, cA aC tpo 8 tfo, cA aC tpp 8 tfp, cA aC tps 8 tfs, cI aC tpa 8 tyf, cI aC tpe 8 teg0, cI aC tpb 8 tbf, cI aC tpu 7 tuf, cI aC tpw 7 tvf, cI aC tpq 128 tqf, cI aC tpt 128 ttf] (va_pl L (plE aC g))) sz) U U.heap)) (va_Qi (fun (r : Int32) (u : Int32 × Int32 × (Nat → Int32) × (Nat → Int32) × (Nat → Int32) × (Nat → Int32) × (Nat → Int32) × (Nat → Int32) × (Nat → Int32) × Int32 × Int32 × Int32 × Int32 × (Nat → Int32) × (Nat → Int32) × (Nat → Int32) × (Nat → Int32) × (Nat → Int32) × Int32 × Int32 × (Nat → Int32) × (Nat → Int32) × (Nat → Int32) × (Nat → Int32) × (Nat → Int32) × (Nat → Int32) × (Nat → Int32) × (Nat → Nat → Int32)) => match u with | (un2, fw2, ug, vg, qg, tg, bg, yg, eg, st2, tsz2, tsy2, tdn2, tkf2, tff2, twf2, tpf2, tsf2, tun2, tfw2, tuf2, tvf2, tqf2, ttf2, tbf2, tyf2, teg02, g2) => STL st2 n (PO n K F W0 S5) ro rp rs g2 yg eg bg ∧ r = rGns n K F W0 S5) (fun (u : Int32 × Int32 × (Nat → Int32) × (Nat → Int32) × (Nat → Int32) × (Nat → Int32) × (Nat → Int32) × (Nat → Int32) × (Nat → Int32) × Int32 × Int32 × Int32 × Int32 × (Nat → Int32) × (Nat → Int32) × (Nat → Int32) × (Nat → Int32) × (Nat → Int32) × Int32 × Int32 × (Nat → Int32) × (Nat → Int32) × (Nat → Int32) × (Nat → Int32) × (Nat → Int32) × (Nat → Int32) × (Nat → Int32) × (Nat → Nat → Int32)) (t : State) => match u with | (un2, fw2, ug, vg, qg, tg, bg, yg, eg, st2, tsz2, tsy2, tdn2, tkf2, tff2, twf2, tpf2, tsf2, tun2, tfw2, tuf2, tvf2, tqf2, ttf2, tbf2, tyf2, teg02, g2) => va_P (dC, dI) classes (wp [oX11 h0 xp xtp xn xt xk xl xc xo xto xr xch ts ik st2, oX9 xp po pp ps pa pe pb xn pk pu pw pq pt un2 fw2, oX4 xn ek ef ew ep es (nI n) (nI sn) dn, cI aC ek 8 kf, cI aC ef 8 ff, cI aC ew 8 wf, cI aC es 5 stf, cA aC po 8 fo, cA aC pp 8 fp, cA aC ps 8 fs, cK aC pk 7 fk, cO k0 0 [], cO k1 1 [], cO k2 3 [], cO k3 5 [], cO k4 6 [], cO k5 10 [], cO k6 8 [], cI aC pa 8 yg, cI aC pe 8 eg, cI aC pb 8 bg, cI aC pu 7 ug, cI aC pw 7 vg, cI aC pq 128 qg, cI aC pt 128 tg, cI aC ep 8 pf, oX4 xt tek tef tew tep tes tsz2 tsy2 tdn2, cI aC tek 8 tkf2, cI aC tef 8 tff2, cI aC tew 8 twf2, cI aC tep 8 tpf2, cI aC tes 5 tsf2, oX9 xtp tpo tpp tps tpa tpe tpb xt pk tpu tpw tpq tpt tun2 tfw2, cA aC tpo 8 tfo, cA aC tpp 8 tfp, cA aC tps 8 tfs, cI aC tpa 8 tyf2, cI aC tpe 8 teg02, cI aC tpb 8 tbf2, cI aC tpu 7 tuf2, cI aC tpw 7 tvf2, cI aC tpq 128 tqf2, cI aC tpt 128 ttf2] (va_pl L (plE aC g2))) t.heap ∧ va_K (dC, dI) classes (TY aC) t ∧ va_D (va_A (wp [oX11 h0 xp xtp xn xt xk xl xc xo xto xr xch ts ik st, oX9 xp po pp ps pa pe pb xn pk pu pw pq pt un fw, oX4 xn ek ef ew ep es (nI n) (nI sn) dn, cI aC ek 8 kf, cI aC ef 8 ff, cI aC ew 8 wf, cI aC es 5 stf, cA aC po 8 fo, cA aC pp 8 fp, cA aC ps 8 fs, cK aC pk 7 fk, cO k0 0 [], cO k1 1 [], cO k2 3 [], cO k3 5 [], cO k4 6 [], cO k5 10 [], cO k6 8 [], cI aC pa 8 yf, cI aC pe 8 ef0, cI aC pb 8 bf, cI aC pu 7 uf, cI aC pw 7 vf, cI aC pq 128 qf, cI aC pt 128 tf, cI aC ep 8 pf, oX4 xt tek tef tew tep tes tsz tsy tdn, cI aC tek 8 tkf, cI aC tef 8 tff, cI aC tew 8 twf, cI aC tep 8 tpf, cI aC tes 5 tsf, oX9 xtp tpo tpp tps tpa tpe tpb xt pk tpu tpw tpq tpt tun tfw, cA aC tpo 8 tfo, cA aC tpp 8 tfp, cA aC tps 8 tfs, cI aC tpa 8 tyf, cI aC tpe 8 teg0, cI aC tpb 8 tbf, cI aC tpu 7 tuf, cI aC tpw 7 tvf, cI aC tpq 128 tqf, cI aC tpt 128 ttf] (va_pl L (plE aC g))) sz) (wp [oX11 h0 xp xtp xn xt xk xl xc xo xto xr xch ts ik st2, oX9 xp po pp ps pa pe pb xn pk pu pw pq pt un2 fw2, oX4 xn ek ef ew ep es (nI n) (nI sn) dn, cI aC ek 8 kf, cI aC ef 8 ff, cI aC ew 8 wf, cI aC es 5 stf, cA aC po 8 fo, cA aC pp 8 fp, cA aC ps 8 fs, cK aC pk 7 fk, cO k0 0 [], cO k1 1 [], cO k2 3 [], cO k3 5 [], cO k4 6 [], cO k5 10 [], cO k6 8 [], cI aC pa 8 yg, cI aC pe 8 eg, cI aC pb 8 bg, cI aC pu 7 ug, cI aC pw 7 vg, cI aC pq 128 qg, cI aC pt 128 tg, cI aC ep 8 pf, oX4 xt tek tef tew tep tes tsz2 tsy2 tdn2, cI aC tek 8 tkf2, cI aC tef 8 tff2, cI aC tew 8 twf2, cI aC tep 8 tpf2, cI aC tes 5 tsf2, oX9 xtp tpo tpp tps tpa tpe tpb xt pk tpu tpw tpq tpt tun2 tfw2, cA aC tpo 8 tfo, cA aC tpp 8 tfp, cA aC tps 8 tfs, cI aC tpa 8 tyf2, cI aC tpe 8 teg02, cI aC tpb 8 tbf2, cI aC tpu 7 tuf2, cI aC tpw 7 tvf2, cI aC tpq 128 tqf2, cI aC tpt 128 ttf2] (va_pl L (plE aC g2)))) (va_A (wp [oX11 h0 xp xtp xn xt xk xl xc xo xto xr xch ts ik st, oX9 xp po pp ps pa pe pb xn pk pu pw pq pt un fw, oX4 xn ek ef ew ep es (nI n) (nI sn) dn, cI aC ek 8 kf, cI aC ef 8 ff, cI aC ew 8 wf, cI aC es 5 stf, cA aC po 8 fo, cA aC pp 8 fp, cA aC ps 8 fs, cK aC pk 7 fk, cO k0 0 [], cO k1 1 [], cO k2 3 [], cO k3 5 [], cO k4 6 [], cO k5 10 [], cO k6 8 [], cI aC pa 8 yf, cI aC pe 8 ef0, cI aC pb 8 bf, cI aC pu 7 uf, cI aC pw 7 vf, cI aC pq 128 qf, cI aC pt 128 tf, cI aC ep 8 pf, oX4 xt tek tef tew tep tes tsz tsy tdn, cI aC tek 8 tkf, cI aC tef 8 tff, cI aC tew 8 twf, cI aC tep 8 tpf, cI aC tes 5 tsf, oX9 xtp tpo tpp tps tpa tpe tpb xt pk tpu tpw tpq tpt tun tfw, cA aC tpo 8 tfo, cA aC tpp 8 tfp, cA aC tps 8 tfs, cI aC tpa 8 tyf, cI aC tpe 8 teg0, cI aC tpb 8 tbf, cI aC tpu 7 tuf, cI aC tpw 7 tvf, cI aC tpq 128 tqf, cI aC tpt 128 ttf] (va_pl L (plE aC g))) sz)) 0 0 (va_A (wp [oX11 h0 xp xtp xn xt xk xl xc xo xto xr xch ts ik st, oX9 xp po pp ps pa pe pb xn pk pu pw pq pt un fw, oX4 xn ek ef ew ep es (nI n) (nI sn) dn, cI aC ek 8 kf, cI aC ef 8 ff, cI aC ew 8 wf, cI aC es 5 stf, cA aC po 8 fo, cA aC pp 8 fp, cA aC ps 8 fs, cK aC pk 7 fk, cO k0 0 [], cO k1 1 [], cO k2 3 [], cO k3 5 [], cO k4 6 [], cO k5 10 [], cO k6 8 [], cI aC pa 8 yf, cI aC pe 8 ef0, cI aC pb 8 bf, cI aC pu 7 uf, cI aC pw 7 vf, cI aC pq 128 qf, cI aC pt 128 tf, cI aC ep 8 pf, oX4 xt tek tef tew tep tes tsz tsy tdn, cI aC tek 8 tkf, cI aC tef 8 tff, cI aC tew 8 twf, cI aC tep 8 tpf, cI aC tes 5 tsf, oX9 xtp tpo tpp tps tpa tpe tpb xt pk tpu tpw tpq tpt tun tfw, cA aC tpo 8 tfo, cA aC tpp 8 tfp, cA aC tps 8 tfs, cI aC tpa 8 tyf, cI aC tpe 8 teg0, cI aC tpb 8 tbf, cI aC tpu 7 tuf, cI aC tpw 7 tvf, cI aC tpq 128 tqf, cI aC tpt 128 ttf] (va_pl L (plE aC g))) sz) := by
  refine Met.ofW (cc := cX11_gains) (maxL := 4) (ret := (some .int)) (by decide) rfl ?_
  intro p e s m args below meth c s₁ B hml hv
  obtain ⟨rfl, hsz, hP, hK, hD0, hN, hZG, hTG⟩ := hv
  have hx := B.exec
  have hb := B.bytes
  have hr := B.returns
  have hts0 := atoms_spec (ws := (wW yX11_gains cX11_gains 4 (some .int))) B.pre
  have hts : ∀ w9 ∈ lw_G, w9.before ([Value.ref h0] : List Value).toArray s = true := fun w9 h9 => hts0 w9 (List.mem_cons_of_mem _ h9)
  have hown : s.vm.findClass RX11 = some m.cls := findClass_of_methodNamed (x := yX11_gains) B.named
  have hlocks := B.notSynchronized
  subst hsz
  have hD := hD0.self (sz := s.heap.size)
  generalize hAe : va_A (wp [oX11 h0 xp xtp xn xt xk xl xc xo xto xr xch ts ik st, oX9 xp po pp ps pa pe pb xn pk pu pw pq pt un fw, oX4 xn ek ef ew ep es (nI n) (nI sn) dn, cI aC ek 8 kf, cI aC ef 8 ff, cI aC ew 8 wf, cI aC es 5 stf, cA aC po 8 fo, cA aC pp 8 fp, cA aC ps 8 fs, cK aC pk 7 fk, cO k0 0 [], cO k1 1 [], cO k2 3 [], cO k3 5 [], cO k4 6 [], cO k5 10 [], cO k6 8 [], cI aC pa 8 yf, cI aC pe 8 ef0, cI aC pb 8 bf, cI aC pu 7 uf, cI aC pw 7 vf, cI aC pq 128 qf, cI aC pt 128 tf, cI aC ep 8 pf, oX4 xt tek tef tew tep tes tsz tsy tdn, cI aC tek 8 tkf, cI aC tef 8 tff, cI aC tew 8 twf, cI aC tep 8 tpf, cI aC tes 5 tsf, oX9 xtp tpo tpp tps tpa tpe tpb xt pk tpu tpw tpq tpt tun tfw, cA aC tpo 8 tfo, cA aC tpp 8 tfp, cA aC tps 8 tfs, cI aC tpa 8 tyf, cI aC tpe 8 teg0, cI aC tpb 8 tbf, cI aC tpu 7 tuf, cI aC tpw 7 tvf, cI aC tpq 128 tqf, cI aC tpt 128 ttf] (va_pl L (plE aC g))) s.heap.size = A at hZG hTG hD ⊢
  have hA : ∀ q : Nat, s.heap.size ≤ q → A q := fun q h => by rw [← hAe]; exact Or.inr h
  obtain ⟨H, hHe⟩ : ∃ H : Heap, H = s.heap := ⟨_, rfl⟩
  have hS : va_S A s.heap H [] := by rw [hHe]; exact va_S.rf
  have hP : va_P (dC, dI) classes (wp [oX11 h0 xp xtp xn xt xk xl xc xo xto xr xch ts ik st, oX9 xp po pp ps pa pe pb xn pk pu pw pq pt un fw, oX4 xn ek ef ew ep es (nI n) (nI sn) dn, cI aC ek 8 kf, cI aC ef 8 ff, cI aC ew 8 wf, cI aC es 5 stf, cA aC po 8 fo, cA aC pp 8 fp, cA aC ps 8 fs, cK aC pk 7 fk, cO k0 0 [], cO k1 1 [], cO k2 3 [], cO k3 5 [], cO k4 6 [], cO k5 10 [], cO k6 8 [], cI aC pa 8 yf, cI aC pe 8 ef0, cI aC pb 8 bf, cI aC pu 7 uf, cI aC pw 7 vf, cI aC pq 128 qf, cI aC pt 128 tf, cI aC ep 8 pf, oX4 xt tek tef tew tep tes tsz tsy tdn, cI aC tek 8 tkf, cI aC tef 8 tff, cI aC tew 8 twf, cI aC tep 8 tpf, cI aC tes 5 tsf, oX9 xtp tpo tpp tps tpa tpe tpb xt pk tpu tpw tpq tpt tun tfw, cA aC tpo 8 tfo, cA aC tpp 8 tfp, cA aC tps 8 tfs, cI aC tpa 8 tyf, cI aC tpe 8 teg0, cI aC tpb 8 tbf, cI aC tpu 7 tuf, cI aC tpw 7 tvf, cI aC tpq 128 tqf, cI aC tpt 128 ttf] (va_pl L (plE aC g))) H := by rw [hHe]; exact hP
  have hl := lv_entry ([Value.ref h0]) (n := 4) (Nat.le_of_ble_eq_true rfl)
  rw [lg_entry_eq]
  generalize (lg_sl ([Value.ref h0]) ++ List.replicate (4 - (lg_sl ([Value.ref h0])).length) Slot.unset).toArray = ls at hl ⊢
  have hl : lv_has ls 4 [(0, Value.ref h0)] := hl
  rw [← hHe]
  have hn8 := EVS_n hev
  refine lv_aload_n hx hb dX11_gains_0 rfl (lv_at hl 0 rfl) ?_
  refine va_get (D := (dC, dI)) (ci := 11) (v := Value.ref xn) (C := RX11) (T := TX11) (N := 14) hx hb hts inX11 hown hK hP 0 rfl rfl 2 (by decide) (hts _ (gw kw_228 rfl)) (fun _ h9 => h9) rfl dX11_gains_1 ?_
  refine va_get (D := (dC, dI)) (ci := 4) (v := Value.int (nI n)) (C := RX4) (T := TX4) (N := 8) hx hb hts inX4 hown hK hP 2 rfl rfl 5 (by decide) (hts _ (gw kw_50 rfl)) (fun _ h9 => h9) rfl dX11_gains_4 ?_
  refine lv_if_eq (tgt := 22) hx hb dX11_gains_7 (by decide) (fun c_1 => ?_) (fun c_1 => ?_)
  · refine lv_iconst (v := 0) hx hb dX11_gains_22 (by decide) ?_
    have hpd9 := pd_P (cx := [oX11 h0 xp xtp xn xt xk xl xc xo xto xr xch ts ik st, oX9 xp po pp ps pa pe pb xn pk pu pw pq pt un fw, oX4 xn ek ef ew ep es (nI n) (nI sn) dn, cI aC ek 8 kf, cI aC ef 8 ff, cI aC ew 8 wf, cI aC es 5 stf, cA aC po 8 fo, cA aC pp 8 fp, cA aC ps 8 fs, cK aC pk 7 fk, cO k0 0 [], cO k1 1 [], cO k2 3 [], cO k3 5 [], cO k4 6 [], cO k5 10 [], cO k6 8 [], cI aC pa 8 yf, cI aC pe 8 ef0, cI aC pb 8 bf, cI aC pu 7 uf, cI aC pw 7 vf, cI aC pq 128 qf, cI aC pt 128 tf, cI aC ep 8 pf, oX4 xt tek tef tew tep tes tsz tsy tdn, cI aC tek 8 tkf, cI aC tef 8 tff, cI aC tew 8 twf, cI aC tep 8 tpf, cI aC tes 5 tsf, oX9 xtp tpo tpp tps tpa tpe tpb xt pk tpu tpw tpq tpt tun tfw, cA aC tpo 8 tfo, cA aC tpp 8 tfp, cA aC tps 8 tfs, cI aC tpa 8 tyf, cI aC tpe 8 teg0, cI aC tpb 8 tbf, cI aC tpu 7 tuf, cI aC tpw 7 tvf, cI aC tpq 128 tqf, cI aC tpt 128 ttf]) hP hD [0, 1, 2, 3, 4, 5, 6, 7, 8, 9, 10, 11, 12, 13, 14, 15, 16, 17, 18, 19, 20, 21, 22, 23, 24, 25, 26, 27, 28, 29, 30, 31, 32, 33, 34, 35, 36, 37, 38, 39, 40, 41, 42] (by decide) rfl
    have hP9 := hpd9.1
    have hD9 := hpd9.2
    refine W.widen (k := 0) (n := 0) (by omega) (by omega) ?_
    exact W.iret (v := 0) hx hb hr (fun t ht hW => ⟨⟨0, (un, fw, uf, vf, qf, tf, bf, yf, ef0, st, tsz, tsy, tdn, tkf, tff, twf, tpf, tsf, tun, tfw, tuf, tvf, tqf, ttf, tbf, tyf, teg0, g), rfl, ⟨hst, by unfold rGns; rw [if_pos (Or.inl ((nI_z hn8).mp c_1))]⟩, by rw [ht]; exact hP9, va_K.moved hW.alike hK, hD9⟩, hS.F ht⟩) hS.2.2 dX11_gains_23
  · refine lv_aload_n hx hb dX11_gains_10 rfl (lv_at hl 0 rfl) ?_
    refine va_get (D := (dC, dI)) (ci := 11) (v := Value.ref xn) (C := RX11) (T := TX11) (N := 14) hx hb hts inX11 hown hK hP 0 rfl rfl 2 (by decide) (hts _ (gw kw_228 rfl)) (fun _ h9 => h9) rfl dX11_gains_11 ?_
    refine va_get (D := (dC, dI)) (ci := 4) (v := Value.int (nI n)) (C := RX4) (T := TX4) (N := 8) hx hb hts inX4 hown hK hP 2 rfl rfl 5 (by decide) (hts _ (gw kw_50 rfl)) (fun _ h9 => h9) rfl dX11_gains_14 ?_
    refine lv_bipush (v := 8) hx hb dX11_gains_17 (by decide) ?_
    refine lv_icmp_lt (tgt := 24) hx hb dX11_gains_19 (by decide) (fun c_2 => ?_) (fun c_2 => ?_)
    · have hn7 : n < 8 := (nI_ltI (b := 8) (by omega) (by omega)).mp c_2
      have hn0 : 0 < n := Nat.pos_of_ne_zero fun q => c_1 (by rw [q]; rfl)
      refine lv_aload_n hx hb dX11_gains_24 rfl (lv_at hl 0 rfl) ?_
      refine va_get (D := (dC, dI)) (ci := 11) (v := Value.ref xt) (C := RX11) (T := TX11) (N := 14) hx hb hts inX11 hown hK hP 0 rfl rfl 3 (by decide) (hts _ (gw kw_229 rfl)) (fun _ h9 => h9) rfl dX11_gains_25 ?_
      refine lv_aload_n hx hb dX11_gains_28 rfl (lv_at hl 0 rfl) ?_
      refine va_get (D := (dC, dI)) (ci := 11) (v := Value.ref xn) (C := RX11) (T := TX11) (N := 14) hx hb hts inX11 hown hK hP 0 rfl rfl 2 (by decide) (hts _ (gw kw_228 rfl)) (fun _ h9 => h9) rfl dX11_gains_29 ?_
      have hpd9 := pdf_N (cx := [oX4 xt tek tef tew tep tes tsz tsy tdn, cI aC tek 8 tkf, cI aC tef 8 tff, cI aC tew 8 twf, cI aC tep 8 tpf, cI aC tes 5 tsf, oX4 xn ek ef ew ep es (nI n) (nI sn) dn, cI aC ek 8 kf, cI aC ef 8 ff, cI aC ew 8 wf, cI aC ep 8 pf, cI aC es 5 stf]) hP hD hS hA [26, 27, 28, 29, 30, 31, 2, 3, 4, 5, 25, 6] (by decide) rfl
      have hPc := hpd9.1
      have hDc := hpd9.2.1
      have hFc := hpd9.2.2
      clear hpd9
      refine va_callv (va_runV (As := [Value.ref xn]) (rest := []) ⟨hx, hb, hml, hown, hts⟩ (c_X4_copy l dC dI aC H.size xt xn tek tef tew tep tes ek ef ew ep es tsz tsy tdn (nI n) (nI sn) dn tkf tff twf tpf tsf kf ff wf pf stf tG (hev.2.2.2.2)) ⟨(callB_of 1 hts (gG kw_598) rfl rfl rfl (hts _ (gw kw_2 rfl)) (hts _ (gw kw_595 rfl)) hd_X4_copy ⟨Nat.le_of_ble_eq_true rfl, Nat.le_of_ble_eq_true rfl⟩), (hts _ (gw kw_596 rfl)), (hts _ (gw kw_597 rfl))⟩ ⟨fun a U g mk q => by obtain ⟨q0, q1, qP, qK, qD, qN, z0, z1⟩ := q; exact ⟨q0, q1, qP, va_K.moved (u := U) (U := U.calling g mk a) (Vm.Alike.refl U.vm) qK, qD, NX.same (u := U) (U := U.calling g mk a) rfl qN, va_Z.moved (u := U) (U := U.calling g mk a) (Vm.Alike.refl U.vm) z0, va_T.moved (u := U) (U := U.calling g mk a) (Vm.Alike.refl U.vm) z1⟩, va_recv (q := (RX4, TX4, 8)) hK hPc (ci := 4) (q0 := 0) rfl rfl, fun U hU hW => ⟨rfl, by rw [hU], by rw [hU]; exact hPc, va_K.moved hW.alike hK, hDc.weaken (fun _ _ _ _ => trivial), NX.warm hW hN, by rw [hU]; exact va_Z.moved hW.alike (va_Z.narrow (va_Z.kept hZG hS.2.1) hFc), by rw [hU]; exact va_T.moved hW.alike (va_T.narrow (va_T.kept hTG hS.2.1) hFc)⟩⟩ rfl rfl hl.1 rfl (lv_room (Nat.le_of_ble_eq_true rfl)) dX11_gains_32 ⟨Nat.le_of_ble_eq_true rfl, Nat.le_of_ble_eq_true rfl⟩) hS (fun q _ h => hFc q h) hFc (fun u9 t9 H1 locs ht hvm hw_3 hB hz1 hk1 hS => ?_)
      obtain ⟨u_4, u_5, u_6, u_7, u_8⟩ := u9
      obtain ⟨hP1, hK1, hD1⟩ := hB
      rw [ht] at hP1
      clear hK1
      try dsimp only at hw_3
      have hpd9 : PDx (dC, dI) classes A H1 (wp [oX11 h0 xp xtp xn xt xk xl xc xo xto xr xch ts ik st, oX9 xp po pp ps pa pe pb xn pk pu pw pq pt un fw, cA aC po 8 fo, cA aC pp 8 fp, cA aC ps 8 fs, cK aC pk 7 fk, cO k0 0 [], cO k1 1 [], cO k2 3 [], cO k3 5 [], cO k4 6 [], cO k5 10 [], cO k6 8 [], cI aC pa 8 yf, cI aC pe 8 ef0, cI aC pb 8 bf, cI aC pu 7 uf, cI aC pw 7 vf, cI aC pq 128 qf, cI aC pt 128 tf, oX9 xtp tpo tpp tps tpa tpe tpb xt pk tpu tpw tpq tpt tun tfw, cA aC tpo 8 tfo, cA aC tpp 8 tfp, cA aC tps 8 tfs, cI aC tpa 8 tyf, cI aC tpe 8 teg0, cI aC tpb 8 tbf, cI aC tpu 7 tuf, cI aC tpw 7 tvf, cI aC tpq 128 tqf, cI aC tpt 128 ttf, oX4 xt tek tef tew tep tes (nI n) (nI sn) dn, cI aC tek 8 u_4, cI aC tef 8 u_5, cI aC tew 8 u_6, cI aC tep 8 u_7, cI aC tes 5 u_8, oX4 xn ek ef ew ep es (nI n) (nI sn) dn, cI aC ek 8 kf, cI aC ef 8 ff, cI aC ew 8 wf, cI aC ep 8 pf, cI aC es 5 stf] (va_pl L (plE aC g))) := jn_Q (wr := [oX11 h0 xp xtp xn xt xk xl xc xo xto xr xch ts ik st, oX9 xp po pp ps pa pe pb xn pk pu pw pq pt un fw, cA aC po 8 fo, cA aC pp 8 fp, cA aC ps 8 fs, cK aC pk 7 fk, cO k0 0 [], cO k1 1 [], cO k2 3 [], cO k3 5 [], cO k4 6 [], cO k5 10 [], cO k6 8 [], cI aC pa 8 yf, cI aC pe 8 ef0, cI aC pb 8 bf, cI aC pu 7 uf, cI aC pw 7 vf, cI aC pq 128 qf, cI aC pt 128 tf, oX9 xtp tpo tpp tps tpa tpe tpb xt pk tpu tpw tpq tpt tun tfw, cA aC tpo 8 tfo, cA aC tpp 8 tfp, cA aC tps 8 tfs, cI aC tpa 8 tyf, cI aC tpe 8 teg0, cI aC tpb 8 tbf, cI aC tpu 7 tuf, cI aC tpw 7 tvf, cI aC tpq 128 tqf, cI aC tpt 128 ttf]) hFc hk1 hP1 hD1 hP hD [26, 27, 28, 29, 30, 31, 2, 3, 4, 5, 25, 6] [0, 1, 7, 8, 9, 10, 11, 12, 13, 14, 15, 16, 17, 18, 19, 20, 21, 22, 23, 24, 32, 33, 34, 35, 36, 37, 38, 39, 40, 41, 42] rfl rfl (by decide) (by decide)
      have hP := hpd9.1
      have hD := hpd9.2
      clear hpd9
      generalize H1 = H at hP hS ⊢
      clear hPc hDc hFc hz1 hk1 hP1 hD1 ht hvm
      have hc9 := hw_3
      refine lv_aload_n hx hb dX11_gains_35 rfl (lv_at hl 0 rfl) ?_
      refine va_get (D := (dC, dI)) (ci := 11) (v := Value.ref xt) (C := RX11) (T := TX11) (N := 14) hx hb hts inX11 hown hK hP 0 rfl rfl 3 (by decide) (hts _ (gw kw_229 rfl)) (fun _ h9 => h9) rfl dX11_gains_36 ?_
      refine lv_iconst (v := 0) hx hb dX11_gains_39 (by decide) ?_
      refine lv_topi (fun x_9 e_9 => ?_)
      have h9 : x_9 = nI 0 := by rw [e_9]; rfl
      subst h9
      refine va_put (D := (dC, dI)) (ci := 4) (v := Value.int (nI 0)) (ty := .int) (C := RX4) (T := TX4) (N := 8) hx hb hts inX4 tyX4 tyX4_ok nmX4 hown hK hP hD hS 31 rfl rfl 5 (by decide) (hts _ (gw kw_50 rfl)) (fun _ h9 => h9) rfl (by decide +kernel) rfl rfl (Nat.le_of_ble_eq_true rfl) dX11_gains_40 (fun H locs hP hD hS => ?_)
      have hpd9 : PDx (dC, dI) classes A H (wp [oX11 h0 xp xtp xn xt xk xl xc xo xto xr xch ts ik st, oX9 xp po pp ps pa pe pb xn pk pu pw pq pt un fw, cA aC po 8 fo, cA aC pp 8 fp, cA aC ps 8 fs, cK aC pk 7 fk, cO k0 0 [], cO k1 1 [], cO k2 3 [], cO k3 5 [], cO k4 6 [], cO k5 10 [], cO k6 8 [], cI aC pa 8 yf, cI aC pe 8 ef0, cI aC pb 8 bf, cI aC pu 7 uf, cI aC pw 7 vf, cI aC pq 128 qf, cI aC pt 128 tf, oX9 xtp tpo tpp tps tpa tpe tpb xt pk tpu tpw tpq tpt tun tfw, cA aC tpo 8 tfo, cA aC tpp 8 tfp, cA aC tps 8 tfs, cI aC tpa 8 tyf, cI aC tpe 8 teg0, cI aC tpb 8 tbf, cI aC tpu 7 tuf, cI aC tpw 7 tvf, cI aC tpq 128 tqf, cI aC tpt 128 ttf, oX4 xt tek tef tew tep tes (nI 0) (nI sn) dn, cI aC tek 8 u_4, cI aC tef 8 u_5, cI aC tew 8 u_6, cI aC tep 8 u_7, cI aC tes 5 u_8, oX4 xn ek ef ew ep es (nI n) (nI sn) dn, cI aC ek 8 kf, cI aC ef 8 ff, cI aC ew 8 wf, cI aC ep 8 pf, cI aC es 5 stf] (va_pl L (plE aC g))) := ⟨hP, hD⟩
      have hP := hpd9.1
      have hD := hpd9.2
      clear hpd9
      refine lv_aload_n hx hb dX11_gains_43 rfl (lv_at hl 0 rfl) ?_
      refine va_get (D := (dC, dI)) (ci := 11) (v := Value.ref xt) (C := RX11) (T := TX11) (N := 14) hx hb hts inX11 hown hK hP 0 rfl rfl 3 (by decide) (hts _ (gw kw_229 rfl)) (fun _ h9 => h9) rfl dX11_gains_44 ?_
      refine lv_iconst (v := 0) hx hb dX11_gains_47 (by decide) ?_
      refine lv_iconst (v := 0) hx hb dX11_gains_48 (by decide) ?_
      refine lv_iconst (v := 1) hx hb dX11_gains_49 (by decide) ?_
      have hpd9 := pdf_N (cx := [oX4 xt tek tef tew tep tes (nI 0) (nI sn) dn, cI aC tek 8 u_4, cI aC tef 8 u_5, cI aC tew 8 u_6]) hP hD hS hA [31, 32, 33, 34] (by decide) rfl
      have hPc := hpd9.1
      have hDc := hpd9.2.1
      have hFc := hpd9.2.2
      clear hpd9
      refine va_callv (va_runV (As := [Value.int 0, Value.int 0, Value.int 1]) (rest := []) ⟨hx, hb, hml, hown, hts⟩ (c_X4_add l dC dI aC H.size xt tek tef tew tep tes 0 (nI sn) dn u_4 u_5 u_6 0 0 1 (by omega)) ⟨(callB_of 3 hts (gG kw_328) rfl rfl rfl (hts _ (gw kw_2 rfl)) (hts _ (gw kw_609 rfl)) hd_X4_add ⟨Nat.le_of_ble_eq_true rfl, Nat.le_of_ble_eq_true rfl⟩), (hts _ (gw kw_326 rfl)), (hts _ (gw kw_327 rfl))⟩ ⟨fb_std, va_recv (q := (RX4, TX4, 8)) hK hPc (ci := 4) (q0 := 0) rfl rfl, pre_std hPc hK hDc hN⟩ rfl rfl hl.1 rfl (lv_room (Nat.le_of_ble_eq_true rfl)) dX11_gains_50 ⟨Nat.le_of_ble_eq_true rfl, Nat.le_of_ble_eq_true rfl⟩) hS (fun q _ h => hFc q h) hFc (fun u9 t9 H1 locs ht hvm hw_10 hB hz1 hk1 hS => ?_)
      obtain ⟨u_11, u_12, u_13⟩ := u9
      obtain ⟨hP1, hK1, hD1⟩ := hB
      rw [ht] at hP1
      clear hK1
      try dsimp only at hw_10
      have hpd9 : PDx (dC, dI) classes A H1 (wp [oX11 h0 xp xtp xn xt xk xl xc xo xto xr xch ts ik st, oX9 xp po pp ps pa pe pb xn pk pu pw pq pt un fw, cA aC po 8 fo, cA aC pp 8 fp, cA aC ps 8 fs, cK aC pk 7 fk, cO k0 0 [], cO k1 1 [], cO k2 3 [], cO k3 5 [], cO k4 6 [], cO k5 10 [], cO k6 8 [], cI aC pa 8 yf, cI aC pe 8 ef0, cI aC pb 8 bf, cI aC pu 7 uf, cI aC pw 7 vf, cI aC pq 128 qf, cI aC pt 128 tf, oX9 xtp tpo tpp tps tpa tpe tpb xt pk tpu tpw tpq tpt tun tfw, cA aC tpo 8 tfo, cA aC tpp 8 tfp, cA aC tps 8 tfs, cI aC tpa 8 tyf, cI aC tpe 8 teg0, cI aC tpb 8 tbf, cI aC tpu 7 tuf, cI aC tpw 7 tvf, cI aC tpq 128 tqf, cI aC tpt 128 ttf, cI aC tep 8 u_7, cI aC tes 5 u_8, oX4 xn ek ef ew ep es (nI n) (nI sn) dn, cI aC ek 8 kf, cI aC ef 8 ff, cI aC ew 8 wf, cI aC ep 8 pf, cI aC es 5 stf, oX4 xt tek tef tew tep tes (nI (0 + 1)) (nI sn) dn, cI aC tek 8 u_11, cI aC tef 8 u_12, cI aC tew 8 u_13] (va_pl L (plE aC g))) := jn_Q (wr := [oX11 h0 xp xtp xn xt xk xl xc xo xto xr xch ts ik st, oX9 xp po pp ps pa pe pb xn pk pu pw pq pt un fw, cA aC po 8 fo, cA aC pp 8 fp, cA aC ps 8 fs, cK aC pk 7 fk, cO k0 0 [], cO k1 1 [], cO k2 3 [], cO k3 5 [], cO k4 6 [], cO k5 10 [], cO k6 8 [], cI aC pa 8 yf, cI aC pe 8 ef0, cI aC pb 8 bf, cI aC pu 7 uf, cI aC pw 7 vf, cI aC pq 128 qf, cI aC pt 128 tf, oX9 xtp tpo tpp tps tpa tpe tpb xt pk tpu tpw tpq tpt tun tfw, cA aC tpo 8 tfo, cA aC tpp 8 tfp, cA aC tps 8 tfs, cI aC tpa 8 tyf, cI aC tpe 8 teg0, cI aC tpb 8 tbf, cI aC tpu 7 tuf, cI aC tpw 7 tvf, cI aC tpq 128 tqf, cI aC tpt 128 ttf, cI aC tep 8 u_7, cI aC tes 5 u_8, oX4 xn ek ef ew ep es (nI n) (nI sn) dn, cI aC ek 8 kf, cI aC ef 8 ff, cI aC ew 8 wf, cI aC ep 8 pf, cI aC es 5 stf]) hFc hk1 hP1 hD1 hP hD [31, 32, 33, 34] [0, 1, 2, 3, 4, 5, 6, 7, 8, 9, 10, 11, 12, 13, 14, 15, 16, 17, 18, 19, 20, 21, 22, 23, 24, 25, 26, 27, 28, 29, 30, 35, 36, 37, 38, 39, 40, 41, 42] rfl rfl (by decide) (by decide)
      have hP := hpd9.1
      have hD := hpd9.2
      clear hpd9
      generalize H1 = H at hP hS ⊢
      clear hPc hDc hFc hz1 hk1 hP1 hD1 ht hvm
      have ha0 := hw_10
      refine lv_iconst (v := 0) hx hb dX11_gains_53 (by decide) ?_
      refine lv_istore_n (lv' := [(1, Value.int 0), (0, Value.ref h0)]) hx hb dX11_gains_54 rfl hl (by decide) rfl (fun ls hl => ?_)
      have lp_55 : ∀ (fu : Nat) (j : Nat) (tkc : Nat → Int32) (tfc : Nat → Int32) (twc : Nat → Int32) (hfu : n - j < fu) (hj : j ≤ n) (hk0 : ∀ q, q < j + 1 → tkc q = nI (cns 0 K q)) (hk1 : ∀ q, q < j + 1 → tfc q = nI (cns 0 F q)) (hk2 : ∀ q, q < j + 1 → twc q = nI (cns 1 W0 q)) (H : Heap) (locs : List Loc) (ls : Array Slot), va_P (dC, dI) classes (wp [oX11 h0 xp xtp xn xt xk xl xc xo xto xr xch ts ik st, oX9 xp po pp ps pa pe pb xn pk pu pw pq pt un fw, cA aC po 8 fo, cA aC pp 8 fp, cA aC ps 8 fs, cK aC pk 7 fk, cO k0 0 [], cO k1 1 [], cO k2 3 [], cO k3 5 [], cO k4 6 [], cO k5 10 [], cO k6 8 [], cI aC pa 8 yf, cI aC pe 8 ef0, cI aC pb 8 bf, cI aC pu 7 uf, cI aC pw 7 vf, cI aC pq 128 qf, cI aC pt 128 tf, oX9 xtp tpo tpp tps tpa tpe tpb xt pk tpu tpw tpq tpt tun tfw, cA aC tpo 8 tfo, cA aC tpp 8 tfp, cA aC tps 8 tfs, cI aC tpa 8 tyf, cI aC tpe 8 teg0, cI aC tpb 8 tbf, cI aC tpu 7 tuf, cI aC tpw 7 tvf, cI aC tpq 128 tqf, cI aC tpt 128 ttf, cI aC tep 8 u_7, cI aC tes 5 u_8, oX4 xn ek ef ew ep es (nI n) (nI sn) dn, cI aC ek 8 kf, cI aC ef 8 ff, cI aC ew 8 wf, cI aC ep 8 pf, cI aC es 5 stf, oX4 xt tek tef tew tep tes (nI (j + 1)) (nI sn) dn, cI aC tek 8 tkc, cI aC tef 8 tfc, cI aC tew 8 twc] (va_pl L (plE aC g))) H → va_D A (wp [oX11 h0 xp xtp xn xt xk xl xc xo xto xr xch ts ik st, oX9 xp po pp ps pa pe pb xn pk pu pw pq pt un fw, cA aC po 8 fo, cA aC pp 8 fp, cA aC ps 8 fs, cK aC pk 7 fk, cO k0 0 [], cO k1 1 [], cO k2 3 [], cO k3 5 [], cO k4 6 [], cO k5 10 [], cO k6 8 [], cI aC pa 8 yf, cI aC pe 8 ef0, cI aC pb 8 bf, cI aC pu 7 uf, cI aC pw 7 vf, cI aC pq 128 qf, cI aC pt 128 tf, oX9 xtp tpo tpp tps tpa tpe tpb xt pk tpu tpw tpq tpt tun tfw, cA aC tpo 8 tfo, cA aC tpp 8 tfp, cA aC tps 8 tfs, cI aC tpa 8 tyf, cI aC tpe 8 teg0, cI aC tpb 8 tbf, cI aC tpu 7 tuf, cI aC tpw 7 tvf, cI aC tpq 128 tqf, cI aC tpt 128 ttf, cI aC tep 8 u_7, cI aC tes 5 u_8, oX4 xn ek ef ew ep es (nI n) (nI sn) dn, cI aC ek 8 kf, cI aC ef 8 ff, cI aC ew 8 wf, cI aC ep 8 pf, cI aC es 5 stf, oX4 xt tek tef tew tep tes (nI (j + 1)) (nI sn) dn, cI aC tek 8 tkc, cI aC tef 8 tfc, cI aC tew 8 twc] (va_pl L (plE aC g))) → va_S A s.heap H locs → lv_has ls 4 [(0, Value.ref h0), (1, Value.int (nI j))] → W p l e (headSpec (wW yX11_gains cX11_gains 4 (some .int)) ({ frames := 7, cells := 0, slots := 0, locals := 151 } : Room)).room s m ([Value.ref h0] : List Value).toArray below meth c H locs 0 0 (MQ below (va_Qi (fun (r : Int32) (u : Int32 × Int32 × (Nat → Int32) × (Nat → Int32) × (Nat → Int32) × (Nat → Int32) × (Nat → Int32) × (Nat → Int32) × (Nat → Int32) × Int32 × Int32 × Int32 × Int32 × (Nat → Int32) × (Nat → Int32) × (Nat → Int32) × (Nat → Int32) × (Nat → Int32) × Int32 × Int32 × (Nat → Int32) × (Nat → Int32) × (Nat → Int32) × (Nat → Int32) × (Nat → Int32) × (Nat → Int32) × (Nat → Int32) × (Nat → Nat → Int32)) => match u with | (un2, fw2, ug, vg, qg, tg, bg, yg, eg, st2, tsz2, tsy2, tdn2, tkf2, tff2, twf2, tpf2, tsf2, tun2, tfw2, tuf2, tvf2, tqf2, ttf2, tbf2, tyf2, teg02, g2) => STL st2 n (PO n K F W0 S5) ro rp rs g2 yg eg bg ∧ r = rGns n K F W0 S5) (fun (u : Int32 × Int32 × (Nat → Int32) × (Nat → Int32) × (Nat → Int32) × (Nat → Int32) × (Nat → Int32) × (Nat → Int32) × (Nat → Int32) × Int32 × Int32 × Int32 × Int32 × (Nat → Int32) × (Nat → Int32) × (Nat → Int32) × (Nat → Int32) × (Nat → Int32) × Int32 × Int32 × (Nat → Int32) × (Nat → Int32) × (Nat → Int32) × (Nat → Int32) × (Nat → Int32) × (Nat → Int32) × (Nat → Int32) × (Nat → Nat → Int32)) (t : State) => match u with | (un2, fw2, ug, vg, qg, tg, bg, yg, eg, st2, tsz2, tsy2, tdn2, tkf2, tff2, twf2, tpf2, tsf2, tun2, tfw2, tuf2, tvf2, tqf2, ttf2, tbf2, tyf2, teg02, g2) => va_P (dC, dI) classes (wp [oX11 h0 xp xtp xn xt xk xl xc xo xto xr xch ts ik st2, oX9 xp po pp ps pa pe pb xn pk pu pw pq pt un2 fw2, oX4 xn ek ef ew ep es (nI n) (nI sn) dn, cI aC ek 8 kf, cI aC ef 8 ff, cI aC ew 8 wf, cI aC es 5 stf, cA aC po 8 fo, cA aC pp 8 fp, cA aC ps 8 fs, cK aC pk 7 fk, cO k0 0 [], cO k1 1 [], cO k2 3 [], cO k3 5 [], cO k4 6 [], cO k5 10 [], cO k6 8 [], cI aC pa 8 yg, cI aC pe 8 eg, cI aC pb 8 bg, cI aC pu 7 ug, cI aC pw 7 vg, cI aC pq 128 qg, cI aC pt 128 tg, cI aC ep 8 pf, oX4 xt tek tef tew tep tes tsz2 tsy2 tdn2, cI aC tek 8 tkf2, cI aC tef 8 tff2, cI aC tew 8 twf2, cI aC tep 8 tpf2, cI aC tes 5 tsf2, oX9 xtp tpo tpp tps tpa tpe tpb xt pk tpu tpw tpq tpt tun2 tfw2, cA aC tpo 8 tfo, cA aC tpp 8 tfp, cA aC tps 8 tfs, cI aC tpa 8 tyf2, cI aC tpe 8 teg02, cI aC tpb 8 tbf2, cI aC tpu 7 tuf2, cI aC tpw 7 tvf2, cI aC tpq 128 tqf2, cI aC tpt 128 ttf2] (va_pl L (plE aC g2))) t.heap ∧ va_K (dC, dI) classes (TY aC) t ∧ va_D A (wp [oX11 h0 xp xtp xn xt xk xl xc xo xto xr xch ts ik st2, oX9 xp po pp ps pa pe pb xn pk pu pw pq pt un2 fw2, oX4 xn ek ef ew ep es (nI n) (nI sn) dn, cI aC ek 8 kf, cI aC ef 8 ff, cI aC ew 8 wf, cI aC es 5 stf, cA aC po 8 fo, cA aC pp 8 fp, cA aC ps 8 fs, cK aC pk 7 fk, cO k0 0 [], cO k1 1 [], cO k2 3 [], cO k3 5 [], cO k4 6 [], cO k5 10 [], cO k6 8 [], cI aC pa 8 yg, cI aC pe 8 eg, cI aC pb 8 bg, cI aC pu 7 ug, cI aC pw 7 vg, cI aC pq 128 qg, cI aC pt 128 tg, cI aC ep 8 pf, oX4 xt tek tef tew tep tes tsz2 tsy2 tdn2, cI aC tek 8 tkf2, cI aC tef 8 tff2, cI aC tew 8 twf2, cI aC tep 8 tpf2, cI aC tes 5 tsf2, oX9 xtp tpo tpp tps tpa tpe tpb xt pk tpu tpw tpq tpt tun2 tfw2, cA aC tpo 8 tfo, cA aC tpp 8 tfp, cA aC tps 8 tfs, cI aC tpa 8 tyf2, cI aC tpe 8 teg02, cI aC tpb 8 tbf2, cI aC tpu 7 tuf2, cI aC tpw 7 tvf2, cI aC tpq 128 tqf2, cI aC tpt 128 ttf2] (va_pl L (plE aC g2)))) A) ([Value.ref h0] : List Value).toArray s 0 0 A) (F0 m 55 ls []) := by
        intro fu
        induction fu with
        | zero => intro j tkc tfc twc hfu; exact absurd hfu (Nat.not_lt_zero _)
        | succ fu ih_55 =>
          intro j tkc tfc twc hfu hj hk0 hk1 hk2 H locs ls hP hD hS hl
          refine lv_iload_n hx hb dX11_gains_55 rfl (lv_at hl 1 rfl) ?_
          refine lv_aload_n hx hb dX11_gains_56 rfl (lv_at hl 0 rfl) ?_
          refine va_get (D := (dC, dI)) (ci := 11) (v := Value.ref xn) (C := RX11) (T := TX11) (N := 14) hx hb hts inX11 hown hK hP 0 rfl rfl 2 (by decide) (hts _ (gw kw_228 rfl)) (fun _ h9 => h9) rfl dX11_gains_57 ?_
          refine va_get (D := (dC, dI)) (ci := 4) (v := Value.int (nI n)) (C := RX4) (T := TX4) (N := 8) hx hb hts inX4 hown hK hP 33 rfl rfl 5 (by decide) (hts _ (gw kw_50 rfl)) (fun _ h9 => h9) rfl dX11_gains_60 ?_
          refine lv_icmp_ge (tgt := 106) hx hb dX11_gains_63 (by decide) (fun c_14 => ?_) (fun c_14 => ?_)
          · have hjn : j = n := by
              rcases Nat.lt_or_ge j n with q | q
              · exact absurd c_14 (nI_ge q (by omega))
              · omega
            have h9 : n = j := Eq.symm (show j = n from hjn)
            subst h9
            have hev9 := EVS_cns hev hn7 hk0 hk1 hk2 hc9.2.2.2.2
            refine lv_aload_n hx hb dX11_gains_106 rfl (lv_at hl 0 rfl) ?_
            refine va_get (D := (dC, dI)) (ci := 11) (v := Value.ref xtp) (C := RX11) (T := TX11) (N := 14) hx hb hts inX11 hown hK hP 0 rfl rfl 1 (by decide) (hts _ (gw kw_227 rfl)) (fun _ h9 => h9) rfl dX11_gains_107 ?_
            refine lv_iconst (v := 0) hx hb dX11_gains_110 (by decide) ?_
            refine lv_topi (fun x_15 e_15 => ?_)
            have h9 : x_15 = nI 0 := by rw [e_15]; rfl
            subst h9
            have hpd9 := pdf_P (cx := [oX9 xtp tpo tpp tps tpa tpe tpb xt pk tpu tpw tpq tpt tun tfw, oX4 xt tek tef tew tep tes (nI (n + 1)) (nI sn) dn, cI aC tek 8 tkc, cI aC tef 8 tfc, cI aC tew 8 twc, cI aC tes 5 u_8, cA aC tpo 8 tfo, cA aC tpp 8 tfp, cA aC tps 8 tfs, cK aC pk 7 fk, cO k0 0 [], cO k1 1 [], cO k2 3 [], cO k3 5 [], cO k4 6 [], cO k5 10 [], cO k6 8 [], cI aC tpa 8 tyf, cI aC tpe 8 teg0, cI aC tpb 8 tbf, cI aC tpu 7 tuf, cI aC tpw 7 tvf, cI aC tpq 128 tqf, cI aC tpt 128 ttf]) hP hD hS hA [20, 39, 40, 41, 42, 32, 21, 22, 23, 5, 6, 7, 8, 9, 10, 11, 12, 24, 25, 26, 27, 28, 29, 30] (by decide) rfl
            have hPc := hpd9.1
            have hDc := hpd9.2.1
            have hFc := hpd9.2.2
            clear hpd9
            refine va_callv (va_runV (As := [Value.int (nI 0)]) (rest := []) ⟨hx, hb, hml, hown, hts⟩ (c_X9_solve l dC dI aC H.size xtp tpo tpp tps tpa tpe tpb xt pk tpu tpw tpq tpt tun tfw tek tef tew tep tes (n + 1) (nI sn) dn tkc tfc twc u_8 (cns 0 K) (cns 0 F) (cns 1 W0) (S5 0) L g tfo tfp tfs tro trp trs fk k0 k1 k2 k3 k4 k5 k6 (PO (n + 1) (cns 0 K) (cns 0 F) (cns 1 W0) S5) 0 tuf tvf tqf ttf tbf tyf teg0 (htg) (hev9.1) (hkd) (PO_cl hev9) (by omega)) ⟨(callB_of 1 hts (gG kw_357) rfl rfl rfl (hts _ (gw kw_11 rfl)) (hts _ (gw kw_354 rfl)) hd_X9_solve ⟨Nat.le_of_ble_eq_true rfl, Nat.le_of_ble_eq_true rfl⟩), (hts _ (gw kw_355 rfl)), (hts _ (gw kw_356 rfl))⟩ ⟨fb_std, va_recv (q := (RX9, TX9, 14)) hK hPc (ci := 9) (q0 := 0) rfl rfl, pre_std hPc hK hDc hN⟩ rfl rfl hl.1 rfl (lv_room (Nat.le_of_ble_eq_true rfl)) dX11_gains_111 ⟨Nat.le_of_ble_eq_true rfl, Nat.le_of_ble_eq_true rfl⟩) hS (fun q _ h => hFc q h) hFc (fun u9 t9 H1 locs ht hvm hw_16 hB hz1 hk1 hS => ?_)
            obtain ⟨u_17, u_18, u_19, u_20, u_21, u_22, u_23, u_24, u_25, u_26⟩ := u9
            obtain ⟨hP1, hK1, hD1⟩ := hB
            rw [ht] at hP1
            clear hK1
            try dsimp only at hw_16
            have hpd9 : PDx (dC, dI) classes A H1 (wp [oX11 h0 xp xtp xn xt xk xl xc xo xto xr xch ts ik st, oX9 xp po pp ps pa pe pb xn pk pu pw pq pt un fw, cA aC po 8 fo, cA aC pp 8 fp, cA aC ps 8 fs, cI aC pa 8 yf, cI aC pe 8 ef0, cI aC pb 8 bf, cI aC pu 7 uf, cI aC pw 7 vf, cI aC pq 128 qf, cI aC pt 128 tf, cI aC tep 8 u_7, oX4 xn ek ef ew ep es (nI n) (nI sn) dn, cI aC ek 8 kf, cI aC ef 8 ff, cI aC ew 8 wf, cI aC ep 8 pf, cI aC es 5 stf, oX9 xtp tpo tpp tps tpa tpe tpb xt pk tpu tpw tpq tpt u_17 u_18, oX4 xt tek tef tew tep tes (nI (n + 1)) (nI sn) dn, cI aC tek 8 tkc, cI aC tef 8 tfc, cI aC tew 8 twc, cI aC tes 5 u_8, cA aC tpo 8 tfo, cA aC tpp 8 tfp, cA aC tps 8 tfs, cK aC pk 7 fk, cO k0 0 [], cO k1 1 [], cO k2 3 [], cO k3 5 [], cO k4 6 [], cO k5 10 [], cO k6 8 [], cI aC tpa 8 u_24, cI aC tpe 8 u_25, cI aC tpb 8 u_23, cI aC tpu 7 u_19, cI aC tpw 7 u_20, cI aC tpq 128 u_21, cI aC tpt 128 u_22] (va_pl L (plE aC u_26))) := jn_P (wr := [oX11 h0 xp xtp xn xt xk xl xc xo xto xr xch ts ik st, oX9 xp po pp ps pa pe pb xn pk pu pw pq pt un fw, cA aC po 8 fo, cA aC pp 8 fp, cA aC ps 8 fs, cI aC pa 8 yf, cI aC pe 8 ef0, cI aC pb 8 bf, cI aC pu 7 uf, cI aC pw 7 vf, cI aC pq 128 qf, cI aC pt 128 tf, cI aC tep 8 u_7, oX4 xn ek ef ew ep es (nI n) (nI sn) dn, cI aC ek 8 kf, cI aC ef 8 ff, cI aC ew 8 wf, cI aC ep 8 pf, cI aC es 5 stf]) hFc hk1 hP1 hD1 hP hD [20, 39, 40, 41, 42, 32, 21, 22, 23, 5, 6, 7, 8, 9, 10, 11, 12, 24, 25, 26, 27, 28, 29, 30] [0, 1, 2, 3, 4, 13, 14, 15, 16, 17, 18, 19, 31, 33, 34, 35, 36, 37, 38] rfl rfl (by decide) (by decide)
            have hP := hpd9.1
            have hD := hpd9.2
            clear hpd9
            generalize H1 = H at hP hS ⊢
            clear hPc hDc hFc hz1 hk1 hP1 hD1 ht hvm
            obtain ⟨ht1, ht2⟩ := hw_16
            refine lv_aload_n hx hb dX11_gains_114 rfl (lv_at hl 0 rfl) ?_
            have hpd9 := pdf_P (cx := [oX11 h0 xp xtp xn xt xk xl xc xo xto xr xch ts ik st, oX9 xp po pp ps pa pe pb xn pk pu pw pq pt un fw, oX4 xn ek ef ew ep es (nI n) (nI sn) dn, cI aC ek 8 kf, cI aC ef 8 ff, cI aC ew 8 wf, cI aC es 5 stf, cA aC po 8 fo, cA aC pp 8 fp, cA aC ps 8 fs, cK aC pk 7 fk, cO k0 0 [], cO k1 1 [], cO k2 3 [], cO k3 5 [], cO k4 6 [], cO k5 10 [], cO k6 8 [], cI aC pa 8 yf, cI aC pe 8 ef0, cI aC pb 8 bf, cI aC pu 7 uf, cI aC pw 7 vf, cI aC pq 128 qf, cI aC pt 128 tf]) hP hD hS hA [0, 1, 13, 14, 15, 16, 18, 2, 3, 4, 28, 29, 30, 31, 32, 33, 34, 35, 5, 6, 7, 8, 9, 10, 11] (by decide) rfl
            have hPc := hpd9.1
            have hDc := hpd9.2.1
            have hFc := hpd9.2.2
            clear hpd9
            refine va_callr (va_runV (As := []) (rest := []) ⟨hx, hb, hml, hown, hts⟩ (c_X11_solved l dC dI aC H.size h0 xp xtp xn xt xk xl xc xo xto xr xch ts ik st po pp ps pa pe pb pk pu pw pq pt un fw ek ef ew ep es n sn dn kf ff wf stf K F W0 S5 L u_26 fo fp fs ro rp rs fk k0 k1 k2 k3 k4 k5 k6 uf vf qf tf bf yf ef0 (hgr) (hev) (hkd) (STL_fr hn8 hst hdi ht2)) ⟨(callB_of 0 hts (gG kw_353) rfl rfl rfl (hts _ (gw kw_1 rfl)) (hts _ (gw kw_350 rfl)) hd_X11_solved ⟨Nat.le_of_ble_eq_true rfl, Nat.le_of_ble_eq_true rfl⟩), (hts _ (gw kw_352 rfl)), (hts _ (gw ks_6 rfl))⟩ ⟨fb_std, va_recv (q := (RX11, TX11, 14)) hK hPc (ci := 11) (q0 := 0) rfl rfl, pre_std hPc hK hDc hN⟩ rfl rfl hl.1 rfl (lv_room (Nat.le_of_ble_eq_true rfl)) dX11_gains_115 ⟨Nat.le_of_ble_eq_true rfl, Nat.le_of_ble_eq_true rfl⟩) hS (fun q _ h => hFc q h) hFc (fun u9 q_27 t9 H1 locs ht hvm hw_27 hB hz1 hk1 hS => ?_)
            obtain ⟨u_28, u_29, u_30, u_31, u_32, u_33, u_34, u_35, u_36, u_37⟩ := u9
            obtain ⟨q_27_e, hP1, hK1, hD1⟩ := hB
            rw [ht] at hP1
            clear hK1
            try dsimp only at hw_27
            have hpd9 : PDx (dC, dI) classes A H1 (wp [cI aC tep 8 u_7, cI aC ep 8 pf, oX9 xtp tpo tpp tps tpa tpe tpb xt pk tpu tpw tpq tpt u_17 u_18, oX4 xt tek tef tew tep tes (nI (n + 1)) (nI sn) dn, cI aC tek 8 tkc, cI aC tef 8 tfc, cI aC tew 8 twc, cI aC tes 5 u_8, cA aC tpo 8 tfo, cA aC tpp 8 tfp, cA aC tps 8 tfs, cI aC tpa 8 u_24, cI aC tpe 8 u_25, cI aC tpb 8 u_23, cI aC tpu 7 u_19, cI aC tpw 7 u_20, cI aC tpq 128 u_21, cI aC tpt 128 u_22, oX11 h0 xp xtp xn xt xk xl xc xo xto xr xch ts ik 0, oX9 xp po pp ps pa pe pb xn pk pu pw pq pt u_28 u_29, oX4 xn ek ef ew ep es (nI n) (nI sn) dn, cI aC ek 8 kf, cI aC ef 8 ff, cI aC ew 8 wf, cI aC es 5 stf, cA aC po 8 fo, cA aC pp 8 fp, cA aC ps 8 fs, cK aC pk 7 fk, cO k0 0 [], cO k1 1 [], cO k2 3 [], cO k3 5 [], cO k4 6 [], cO k5 10 [], cO k6 8 [], cI aC pa 8 u_35, cI aC pe 8 u_36, cI aC pb 8 u_34, cI aC pu 7 u_30, cI aC pw 7 u_31, cI aC pq 128 u_32, cI aC pt 128 u_33] (va_pl L (plE aC u_37))) := jn_P (wr := [cI aC tep 8 u_7, cI aC ep 8 pf, oX9 xtp tpo tpp tps tpa tpe tpb xt pk tpu tpw tpq tpt u_17 u_18, oX4 xt tek tef tew tep tes (nI (n + 1)) (nI sn) dn, cI aC tek 8 tkc, cI aC tef 8 tfc, cI aC tew 8 twc, cI aC tes 5 u_8, cA aC tpo 8 tfo, cA aC tpp 8 tfp, cA aC tps 8 tfs, cI aC tpa 8 u_24, cI aC tpe 8 u_25, cI aC tpb 8 u_23, cI aC tpu 7 u_19, cI aC tpw 7 u_20, cI aC tpq 128 u_21, cI aC tpt 128 u_22]) hFc hk1 hP1 hD1 hP hD [0, 1, 13, 14, 15, 16, 18, 2, 3, 4, 28, 29, 30, 31, 32, 33, 34, 35, 5, 6, 7, 8, 9, 10, 11] [12, 17, 19, 20, 21, 22, 23, 24, 25, 26, 27, 36, 37, 38, 39, 40, 41, 42] rfl rfl (by decide) (by decide)
            have hP := hpd9.1
            have hD := hpd9.2
            clear hpd9
            generalize H1 = H at hP hS ⊢
            clear hPc hDc hFc hz1 hk1 hP1 hD1 ht hvm
            have h9 := q_27_e.symm
            subst h9
            obtain ⟨hm1, hm2⟩ := hw_27
            refine lv_astore_n (lv' := [(1, Value.ref xp), (0, Value.ref h0)]) hx hb dX11_gains_118 rfl hl (by decide) rfl (fun ls hl => ?_)
            refine lv_iconst (v := 0) hx hb dX11_gains_119 (by decide) ?_
            refine lv_istore_n (lv' := [(2, Value.int 0), (1, Value.ref xp), (0, Value.ref h0)]) hx hb dX11_gains_120 rfl hl (by decide) rfl (fun ls hl => ?_)
            refine lv_iconst (v := 0) hx hb dX11_gains_121 (by decide) ?_
            refine lv_istore_n (lv' := [(3, Value.int 0), (2, Value.int 0), (1, Value.ref xp), (0, Value.ref h0)]) hx hb dX11_gains_122 rfl hl (by decide) rfl (fun ls hl => ?_)
            have lp_123 : ∀ (fu : Nat) (j : Nat) (x2 : Int32) (hfu : n - j < fu) (hj : j ≤ n) (hx2 : x2 = gnb (fun q => iI (zS (PO (n + 1) (cns 0 K) (cns 0 F) (cns 1 W0) S5) 0 q)) (fun q => iI (zS (PO n K F W0 S5) 0 q)) j) (H : Heap) (locs : List Loc) (ls : Array Slot), va_P (dC, dI) classes (wp [cI aC tep 8 u_7, cI aC ep 8 pf, oX9 xtp tpo tpp tps tpa tpe tpb xt pk tpu tpw tpq tpt u_17 u_18, oX4 xt tek tef tew tep tes (nI (n + 1)) (nI sn) dn, cI aC tek 8 tkc, cI aC tef 8 tfc, cI aC tew 8 twc, cI aC tes 5 u_8, cA aC tpo 8 tfo, cA aC tpp 8 tfp, cA aC tps 8 tfs, cI aC tpa 8 u_24, cI aC tpe 8 u_25, cI aC tpb 8 u_23, cI aC tpu 7 u_19, cI aC tpw 7 u_20, cI aC tpq 128 u_21, cI aC tpt 128 u_22, oX11 h0 xp xtp xn xt xk xl xc xo xto xr xch ts ik 0, oX9 xp po pp ps pa pe pb xn pk pu pw pq pt u_28 u_29, oX4 xn ek ef ew ep es (nI n) (nI sn) dn, cI aC ek 8 kf, cI aC ef 8 ff, cI aC ew 8 wf, cI aC es 5 stf, cA aC po 8 fo, cA aC pp 8 fp, cA aC ps 8 fs, cK aC pk 7 fk, cO k0 0 [], cO k1 1 [], cO k2 3 [], cO k3 5 [], cO k4 6 [], cO k5 10 [], cO k6 8 [], cI aC pa 8 u_35, cI aC pe 8 u_36, cI aC pb 8 u_34, cI aC pu 7 u_30, cI aC pw 7 u_31, cI aC pq 128 u_32, cI aC pt 128 u_33] (va_pl L (plE aC u_37))) H → va_D A (wp [cI aC tep 8 u_7, cI aC ep 8 pf, oX9 xtp tpo tpp tps tpa tpe tpb xt pk tpu tpw tpq tpt u_17 u_18, oX4 xt tek tef tew tep tes (nI (n + 1)) (nI sn) dn, cI aC tek 8 tkc, cI aC tef 8 tfc, cI aC tew 8 twc, cI aC tes 5 u_8, cA aC tpo 8 tfo, cA aC tpp 8 tfp, cA aC tps 8 tfs, cI aC tpa 8 u_24, cI aC tpe 8 u_25, cI aC tpb 8 u_23, cI aC tpu 7 u_19, cI aC tpw 7 u_20, cI aC tpq 128 u_21, cI aC tpt 128 u_22, oX11 h0 xp xtp xn xt xk xl xc xo xto xr xch ts ik 0, oX9 xp po pp ps pa pe pb xn pk pu pw pq pt u_28 u_29, oX4 xn ek ef ew ep es (nI n) (nI sn) dn, cI aC ek 8 kf, cI aC ef 8 ff, cI aC ew 8 wf, cI aC es 5 stf, cA aC po 8 fo, cA aC pp 8 fp, cA aC ps 8 fs, cK aC pk 7 fk, cO k0 0 [], cO k1 1 [], cO k2 3 [], cO k3 5 [], cO k4 6 [], cO k5 10 [], cO k6 8 [], cI aC pa 8 u_35, cI aC pe 8 u_36, cI aC pb 8 u_34, cI aC pu 7 u_30, cI aC pw 7 u_31, cI aC pq 128 u_32, cI aC pt 128 u_33] (va_pl L (plE aC u_37))) → va_S A s.heap H locs → lv_has ls 4 [(0, Value.ref h0), (1, Value.ref xp), (2, Value.int x2), (3, Value.int (nI j))] → W p l e (headSpec (wW yX11_gains cX11_gains 4 (some .int)) ({ frames := 7, cells := 0, slots := 0, locals := 151 } : Room)).room s m ([Value.ref h0] : List Value).toArray below meth c H locs 0 0 (MQ below (va_Qi (fun (r : Int32) (u : Int32 × Int32 × (Nat → Int32) × (Nat → Int32) × (Nat → Int32) × (Nat → Int32) × (Nat → Int32) × (Nat → Int32) × (Nat → Int32) × Int32 × Int32 × Int32 × Int32 × (Nat → Int32) × (Nat → Int32) × (Nat → Int32) × (Nat → Int32) × (Nat → Int32) × Int32 × Int32 × (Nat → Int32) × (Nat → Int32) × (Nat → Int32) × (Nat → Int32) × (Nat → Int32) × (Nat → Int32) × (Nat → Int32) × (Nat → Nat → Int32)) => match u with | (un2, fw2, ug, vg, qg, tg, bg, yg, eg, st2, tsz2, tsy2, tdn2, tkf2, tff2, twf2, tpf2, tsf2, tun2, tfw2, tuf2, tvf2, tqf2, ttf2, tbf2, tyf2, teg02, g2) => STL st2 n (PO n K F W0 S5) ro rp rs g2 yg eg bg ∧ r = rGns n K F W0 S5) (fun (u : Int32 × Int32 × (Nat → Int32) × (Nat → Int32) × (Nat → Int32) × (Nat → Int32) × (Nat → Int32) × (Nat → Int32) × (Nat → Int32) × Int32 × Int32 × Int32 × Int32 × (Nat → Int32) × (Nat → Int32) × (Nat → Int32) × (Nat → Int32) × (Nat → Int32) × Int32 × Int32 × (Nat → Int32) × (Nat → Int32) × (Nat → Int32) × (Nat → Int32) × (Nat → Int32) × (Nat → Int32) × (Nat → Int32) × (Nat → Nat → Int32)) (t : State) => match u with | (un2, fw2, ug, vg, qg, tg, bg, yg, eg, st2, tsz2, tsy2, tdn2, tkf2, tff2, twf2, tpf2, tsf2, tun2, tfw2, tuf2, tvf2, tqf2, ttf2, tbf2, tyf2, teg02, g2) => va_P (dC, dI) classes (wp [oX11 h0 xp xtp xn xt xk xl xc xo xto xr xch ts ik st2, oX9 xp po pp ps pa pe pb xn pk pu pw pq pt un2 fw2, oX4 xn ek ef ew ep es (nI n) (nI sn) dn, cI aC ek 8 kf, cI aC ef 8 ff, cI aC ew 8 wf, cI aC es 5 stf, cA aC po 8 fo, cA aC pp 8 fp, cA aC ps 8 fs, cK aC pk 7 fk, cO k0 0 [], cO k1 1 [], cO k2 3 [], cO k3 5 [], cO k4 6 [], cO k5 10 [], cO k6 8 [], cI aC pa 8 yg, cI aC pe 8 eg, cI aC pb 8 bg, cI aC pu 7 ug, cI aC pw 7 vg, cI aC pq 128 qg, cI aC pt 128 tg, cI aC ep 8 pf, oX4 xt tek tef tew tep tes tsz2 tsy2 tdn2, cI aC tek 8 tkf2, cI aC tef 8 tff2, cI aC tew 8 twf2, cI aC tep 8 tpf2, cI aC tes 5 tsf2, oX9 xtp tpo tpp tps tpa tpe tpb xt pk tpu tpw tpq tpt tun2 tfw2, cA aC tpo 8 tfo, cA aC tpp 8 tfp, cA aC tps 8 tfs, cI aC tpa 8 tyf2, cI aC tpe 8 teg02, cI aC tpb 8 tbf2, cI aC tpu 7 tuf2, cI aC tpw 7 tvf2, cI aC tpq 128 tqf2, cI aC tpt 128 ttf2] (va_pl L (plE aC g2))) t.heap ∧ va_K (dC, dI) classes (TY aC) t ∧ va_D A (wp [oX11 h0 xp xtp xn xt xk xl xc xo xto xr xch ts ik st2, oX9 xp po pp ps pa pe pb xn pk pu pw pq pt un2 fw2, oX4 xn ek ef ew ep es (nI n) (nI sn) dn, cI aC ek 8 kf, cI aC ef 8 ff, cI aC ew 8 wf, cI aC es 5 stf, cA aC po 8 fo, cA aC pp 8 fp, cA aC ps 8 fs, cK aC pk 7 fk, cO k0 0 [], cO k1 1 [], cO k2 3 [], cO k3 5 [], cO k4 6 [], cO k5 10 [], cO k6 8 [], cI aC pa 8 yg, cI aC pe 8 eg, cI aC pb 8 bg, cI aC pu 7 ug, cI aC pw 7 vg, cI aC pq 128 qg, cI aC pt 128 tg, cI aC ep 8 pf, oX4 xt tek tef tew tep tes tsz2 tsy2 tdn2, cI aC tek 8 tkf2, cI aC tef 8 tff2, cI aC tew 8 twf2, cI aC tep 8 tpf2, cI aC tes 5 tsf2, oX9 xtp tpo tpp tps tpa tpe tpb xt pk tpu tpw tpq tpt tun2 tfw2, cA aC tpo 8 tfo, cA aC tpp 8 tfp, cA aC tps 8 tfs, cI aC tpa 8 tyf2, cI aC tpe 8 teg02, cI aC tpb 8 tbf2, cI aC tpu 7 tuf2, cI aC tpw 7 tvf2, cI aC tpq 128 tqf2, cI aC tpt 128 ttf2] (va_pl L (plE aC g2)))) A) ([Value.ref h0] : List Value).toArray s 0 0 A) (F0 m 123 ls []) := by
              intro fu
              induction fu with
              | zero => intro j x2 hfu; exact absurd hfu (Nat.not_lt_zero _)
              | succ fu ih_123 =>
                intro j x2 hfu hj hx2 H locs ls hP hD hS hl
                refine lv_iload_n hx hb dX11_gains_123 rfl (lv_at hl 3 rfl) ?_
                refine lv_aload_n hx hb dX11_gains_124 rfl (lv_at hl 0 rfl) ?_
                refine va_get (D := (dC, dI)) (ci := 11) (v := Value.ref xn) (C := RX11) (T := TX11) (N := 14) hx hb hts inX11 hown hK hP 18 rfl rfl 2 (by decide) (hts _ (gw kw_228 rfl)) (fun _ h9 => h9) rfl dX11_gains_125 ?_
                refine va_get (D := (dC, dI)) (ci := 4) (v := Value.int (nI n)) (C := RX4) (T := TX4) (N := 8) hx hb hts inX4 hown hK hP 20 rfl rfl 5 (by decide) (hts _ (gw kw_50 rfl)) (fun _ h9 => h9) rfl dX11_gains_128 ?_
                refine lv_icmp_ge (tgt := 170) hx hb dX11_gains_131 (by decide) (fun c_38 => ?_) (fun c_38 => ?_)
                · have hjn : j = n := by
                    rcases Nat.lt_or_ge j n with q | q
                    · exact absurd c_38 (nI_ge q (by omega))
                    · omega
                  refine lv_iload_n hx hb dX11_gains_170 rfl (lv_at hl 2 rfl) ?_
                  have hpd9 := pd_P (cx := [oX11 h0 xp xtp xn xt xk xl xc xo xto xr xch ts ik 0, oX9 xp po pp ps pa pe pb xn pk pu pw pq pt u_28 u_29, oX4 xn ek ef ew ep es (nI n) (nI sn) dn, cI aC ek 8 kf, cI aC ef 8 ff, cI aC ew 8 wf, cI aC es 5 stf, cA aC po 8 fo, cA aC pp 8 fp, cA aC ps 8 fs, cK aC pk 7 fk, cO k0 0 [], cO k1 1 [], cO k2 3 [], cO k3 5 [], cO k4 6 [], cO k5 10 [], cO k6 8 [], cI aC pa 8 u_35, cI aC pe 8 u_36, cI aC pb 8 u_34, cI aC pu 7 u_30, cI aC pw 7 u_31, cI aC pq 128 u_32, cI aC pt 128 u_33, cI aC ep 8 pf, oX4 xt tek tef tew tep tes (nI (n + 1)) (nI sn) dn, cI aC tek 8 tkc, cI aC tef 8 tfc, cI aC tew 8 twc, cI aC tep 8 u_7, cI aC tes 5 u_8, oX9 xtp tpo tpp tps tpa tpe tpb xt pk tpu tpw tpq tpt u_17 u_18, cA aC tpo 8 tfo, cA aC tpp 8 tfp, cA aC tps 8 tfs, cI aC tpa 8 u_24, cI aC tpe 8 u_25, cI aC tpb 8 u_23, cI aC tpu 7 u_19, cI aC tpw 7 u_20, cI aC tpq 128 u_21, cI aC tpt 128 u_22]) hP hD [18, 19, 20, 21, 22, 23, 24, 25, 26, 27, 28, 29, 30, 31, 32, 33, 34, 35, 36, 37, 38, 39, 40, 41, 42, 1, 3, 4, 5, 6, 0, 7, 2, 8, 9, 10, 11, 12, 13, 14, 15, 16, 17] (by decide) rfl
                  have hP9 := hpd9.1
                  have hD9 := hpd9.2
                  refine W.widen (k := 0) (n := 0) (by omega) (by omega) ?_
                  exact W.iret (v := x2) hx hb hr (fun t ht hW => ⟨⟨x2, (u_28, u_29, u_30, u_31, u_32, u_33, u_34, u_35, u_36, 0, (nI (n + 1)), (nI sn), dn, tkc, tfc, twc, u_7, u_8, u_17, u_18, u_19, u_20, u_21, u_22, u_23, u_24, u_25, u_37), rfl, ⟨Or.inr ⟨rfl, hm1⟩, by unfold rGns; rw [if_neg (by omega), hx2, hjn]⟩, by rw [ht]; exact hP9, va_K.moved hW.alike hK, hD9⟩, hS.F ht⟩) hS.2.2 dX11_gains_171
                · have hlt : j < n := by
                    rcases Nat.lt_or_ge j n with q | q
                    · exact q
                    · exact absurd (nI_le q (by omega)) c_38
                  have hT9 : u_37 (trs 0) (j + 1) = iI (zS (PO (n + 1) (cns 0 K) (cns 0 F) (cns 1 W0) S5) 0 (j + 1)) := (MAT_fr (by omega) (ht1 0 (by omega) (by omega)) (DIS_sym hdi) hm2).2.2.1 (j + 1) (by omega)
                  have hS9 : u_37 (rs 0) j = iI (zS (PO n K F W0 S5) 0 j) := (hm1 0 (by omega)).2.2.1 j (by omega)
                  refine lv_aload_n hx hb dX11_gains_134 rfl (lv_at hl 0 rfl) ?_
                  refine va_get (D := (dC, dI)) (ci := 11) (v := Value.ref xtp) (C := RX11) (T := TX11) (N := 14) hx hb hts inX11 hown hK hP 18 rfl rfl 1 (by decide) (hts _ (gw kw_227 rfl)) (fun _ h9 => h9) rfl dX11_gains_135 ?_
                  refine va_get (D := (dC, dI)) (ci := 9) (v := Value.ref tps) (C := RX9) (T := TX9) (N := 14) hx hb hts inX9 hown hK hP 2 rfl rfl 2 (by decide) (hts _ (gw kw_155 rfl)) (fun _ h9 => h9) rfl dX11_gains_138 ?_
                  refine lv_iconst (v := 0) hx hb dX11_gains_141 (by decide) ?_
                  refine lv_topi (fun x_39 e_39 => ?_)
                  have h9 : x_39 = nI 0 := by rw [e_39]; rfl
                  subst h9
                  have h_40 : vp_in (nI 0) 8 := by first | exact vp_in_nI (by omega) (by omega) | (unfold vp_in; decide) | (subst_vars; first | (unfold vp_in; decide) | exact vp_in_nI (by omega) (by omega))
                  refine va_alda (r := trs 0) hx hb hK hP 10 rfl h_40 (by rw [nI_clamp (by omega)]; exact (htg.1 0 (by omega)).2.2.1) dX11_gains_142 ?_
                  refine lv_iload_n hx hb dX11_gains_143 rfl (lv_at hl 3 rfl) ?_
                  refine lv_iconst (v := 1) hx hb dX11_gains_144 (by decide) ?_
                  refine lv_iadd hx hb dX11_gains_145 ?_
                  refine lv_topi (fun x_41 e_41 => ?_)
                  have h9 : x_41 = nI (j + 1) := by rw [e_41, nI_1]
                  subst h9
                  have h_42 : vp_in (nI (j + 1)) 8 := by first | exact vp_in_nI (by omega) (by omega) | (unfold vp_in; decide) | (subst_vars; first | (unfold vp_in; decide) | exact vp_in_nI (by omega) (by omega))
                  refine pl_iald hx hb hK hP ((htg.1 0 (by omega)).2.2.2) h_42 dX11_gains_146 ?_
                  refine lv_topi (fun x_43 e_43 => ?_)
                  have hxa : x_43 = (fun q => iI (zS (PO (n + 1) (cns 0 K) (cns 0 F) (cns 1 W0) S5) 0 q)) (j + 1) := by rw [e_43, nI_clamp (by omega)]; exact hT9
                  refine lv_aload_n hx hb dX11_gains_147 rfl (lv_at hl 1 rfl) ?_
                  refine va_get (D := (dC, dI)) (ci := 9) (v := Value.ref ps) (C := RX9) (T := TX9) (N := 14) hx hb hts inX9 hown hK hP 19 rfl rfl 2 (by decide) (hts _ (gw kw_155 rfl)) (fun _ h9 => h9) rfl dX11_gains_148 ?_
                  refine lv_iconst (v := 0) hx hb dX11_gains_151 (by decide) ?_
                  refine lv_topi (fun x_44 e_44 => ?_)
                  have h9 : x_44 = nI 0 := by rw [e_44]; rfl
                  subst h9
                  have h_45 : vp_in (nI 0) 8 := by first | exact vp_in_nI (by omega) (by omega) | (unfold vp_in; decide) | (subst_vars; first | (unfold vp_in; decide) | exact vp_in_nI (by omega) (by omega))
                  refine va_alda (r := rs 0) hx hb hK hP 27 rfl h_45 (by rw [nI_clamp (by omega)]; exact (hgr.1 0 (by omega)).2.2.1) dX11_gains_152 ?_
                  refine lv_iload_n hx hb dX11_gains_153 rfl (lv_at hl 3 rfl) ?_
                  have h_46 : vp_in (nI j) 8 := by first | exact vp_in_nI (by omega) (by omega) | (unfold vp_in; decide) | (subst_vars; first | (unfold vp_in; decide) | exact vp_in_nI (by omega) (by omega))
                  refine pl_iald hx hb hK hP ((hgr.1 0 (by omega)).2.2.2) h_46 dX11_gains_154 ?_
                  refine lv_topi (fun x_47 e_47 => ?_)
                  have hya : x_47 = (fun q => iI (zS (PO n K F W0 S5) 0 q)) j := by rw [e_47, nI_clamp (by omega)]; exact hS9
                  refine lv_icmp_le (tgt := 164) hx hb dX11_gains_155 (by decide) (fun c_48 => ?_) (fun c_48 => ?_)
                  · have hx3 : x2 = gnb (fun q => iI (zS (PO (n + 1) (cns 0 K) (cns 0 F) (cns 1 W0) S5) 0 q)) (fun q => iI (zS (PO n K F W0 S5) 0 q)) (j + 1) := hx2.trans (gnb_n hxa hya c_48).symm
                    obtain ⟨x_49, e_49⟩ : ∃ y : Int32, y = (nI j) + 1 := ⟨_, rfl⟩
                    refine lv_iinc (v := x_49) (lv' := [(3, Value.int x_49), (0, Value.ref h0), (1, Value.ref xp), (2, Value.int x2)]) hx hb dX11_gains_164 hl (k := 3) rfl (by rw [e_49]; rfl) (by decide) rfl (fun ls hl => ?_)
                    have h9 : x_49 = nI (j + 1) := by rw [e_49, nI_1]
                    subst h9
                    refine lv_goto (tgt := 123) hx hb dX11_gains_167 (by decide) ?_
                    exact ih_123 (j + 1) x2 (ms_lt hlt hfu) (by omega) (hx3) _ _ _ (plP hP [0, 1, 2, 3, 4, 5, 6, 7, 8, 9, 10, 11, 12, 13, 14, 15, 16, 17, 18, 19, 20, 21, 22, 23, 24, 25, 26, 27, 28, 29, 30, 31, 32, 33, 34, 35, 36, 37, 38, 39, 40, 41, 42] rfl) (plD hD [0, 1, 2, 3, 4, 5, 6, 7, 8, 9, 10, 11, 12, 13, 14, 15, 16, 17, 18, 19, 20, 21, 22, 23, 24, 25, 26, 27, 28, 29, 30, 31, 32, 33, 34, 35, 36, 37, 38, 39, 40, 41, 42] (by decide) rfl) hS (lv_sub hl [1, 2, 3, 0] rfl)
                  · refine lv_iload_n hx hb dX11_gains_158 rfl (lv_at hl 2 rfl) ?_
                    refine lv_iconst (v := 1) hx hb dX11_gains_159 (by decide) ?_
                    refine lv_iload_n hx hb dX11_gains_160 rfl (lv_at hl 3 rfl) ?_
                    refine lv_ishl hx hb dX11_gains_161 ?_
                    refine lv_topi (fun x_50 e_50 => ?_)
                    refine lv_ior hx hb dX11_gains_162 ?_
                    refine lv_topi (fun x_51 e_51 => ?_)
                    refine lv_istore_n (lv' := [(2, Value.int x_51), (0, Value.ref h0), (1, Value.ref xp), (3, Value.int (nI j))]) hx hb dX11_gains_163 rfl hl (by decide) rfl (fun ls hl => ?_)
                    have hx3 : x_51 = gnb (fun q => iI (zS (PO (n + 1) (cns 0 K) (cns 0 F) (cns 1 W0) S5) 0 q)) (fun q => iI (zS (PO n K F W0 S5) 0 q)) (j + 1) := by rw [e_51, e_50, hx2, gnb_y hxa hya c_48]
                    obtain ⟨x_52, e_52⟩ : ∃ y : Int32, y = (nI j) + 1 := ⟨_, rfl⟩
                    refine lv_iinc (v := x_52) (lv' := [(3, Value.int x_52), (2, Value.int x_51), (0, Value.ref h0), (1, Value.ref xp)]) hx hb dX11_gains_164 hl (k := 3) rfl (by rw [e_52]; rfl) (by decide) rfl (fun ls hl => ?_)
                    have h9 : x_52 = nI (j + 1) := by rw [e_52, nI_1]
                    subst h9
                    refine lv_goto (tgt := 123) hx hb dX11_gains_167 (by decide) ?_
                    exact ih_123 (j + 1) x_51 (ms_lt hlt hfu) (by omega) (hx3) _ _ _ (plP hP [0, 1, 2, 3, 4, 5, 6, 7, 8, 9, 10, 11, 12, 13, 14, 15, 16, 17, 18, 19, 20, 21, 22, 23, 24, 25, 26, 27, 28, 29, 30, 31, 32, 33, 34, 35, 36, 37, 38, 39, 40, 41, 42] rfl) (plD hD [0, 1, 2, 3, 4, 5, 6, 7, 8, 9, 10, 11, 12, 13, 14, 15, 16, 17, 18, 19, 20, 21, 22, 23, 24, 25, 26, 27, 28, 29, 30, 31, 32, 33, 34, 35, 36, 37, 38, 39, 40, 41, 42] (by decide) rfl) hS (lv_sub hl [2, 3, 1, 0] rfl)
            exact lp_123 ((n - 0) + 1) 0 0 (Nat.lt_succ_self _) (by omega) (rfl) _ _ _ (plP hP [0, 1, 2, 3, 4, 5, 6, 7, 8, 9, 10, 11, 12, 13, 14, 15, 16, 17, 18, 19, 20, 21, 22, 23, 24, 25, 26, 27, 28, 29, 30, 31, 32, 33, 34, 35, 36, 37, 38, 39, 40, 41, 42] rfl) (plD hD [0, 1, 2, 3, 4, 5, 6, 7, 8, 9, 10, 11, 12, 13, 14, 15, 16, 17, 18, 19, 20, 21, 22, 23, 24, 25, 26, 27, 28, 29, 30, 31, 32, 33, 34, 35, 36, 37, 38, 39, 40, 41, 42] (by decide) rfl) hS (lv_sub hl [3, 2, 1, 0] rfl)
          · have hlt : j < n := by
              rcases Nat.lt_or_ge j n with q | q
              · exact q
              · exact absurd (nI_le q (by omega)) c_14
            have he := hev.1.2.2.2 j hlt
            refine lv_aload_n hx hb dX11_gains_66 rfl (lv_at hl 0 rfl) ?_
            refine va_get (D := (dC, dI)) (ci := 11) (v := Value.ref xt) (C := RX11) (T := TX11) (N := 14) hx hb hts inX11 hown hK hP 0 rfl rfl 3 (by decide) (hts _ (gw kw_229 rfl)) (fun _ h9 => h9) rfl dX11_gains_67 ?_
            refine lv_aload_n hx hb dX11_gains_70 rfl (lv_at hl 0 rfl) ?_
            refine va_get (D := (dC, dI)) (ci := 11) (v := Value.ref xn) (C := RX11) (T := TX11) (N := 14) hx hb hts inX11 hown hK hP 0 rfl rfl 2 (by decide) (hts _ (gw kw_228 rfl)) (fun _ h9 => h9) rfl dX11_gains_71 ?_
            refine va_get (D := (dC, dI)) (ci := 4) (v := Value.ref ek) (C := RX4) (T := TX4) (N := 8) hx hb hts inX4 hown hK hP 33 rfl rfl 0 (by decide) (hts _ (gw kw_34 rfl)) (fun _ h9 => h9) rfl dX11_gains_74 ?_
            refine lv_iload_n hx hb dX11_gains_77 rfl (lv_at hl 1 rfl) ?_
            have h_53 : vp_in (nI j) 8 := by first | exact vp_in_nI (by omega) (by omega) | (unfold vp_in; decide) | (subst_vars; first | (unfold vp_in; decide) | exact vp_in_nI (by omega) (by omega))
            refine va_iald hx hb hK hP 34 0 rfl rfl h_53 dX11_gains_78 ?_
            refine lv_topi (fun x_54 e_54 => ?_)
            have hx0 : x_54 = nI (K j) := by rw [e_54, nI_clamp (by omega)]; exact he.1.1
            refine lv_aload_n hx hb dX11_gains_79 rfl (lv_at hl 0 rfl) ?_
            refine va_get (D := (dC, dI)) (ci := 11) (v := Value.ref xn) (C := RX11) (T := TX11) (N := 14) hx hb hts inX11 hown hK hP 0 rfl rfl 2 (by decide) (hts _ (gw kw_228 rfl)) (fun _ h9 => h9) rfl dX11_gains_80 ?_
            refine va_get (D := (dC, dI)) (ci := 4) (v := Value.ref ef) (C := RX4) (T := TX4) (N := 8) hx hb hts inX4 hown hK hP 33 rfl rfl 1 (by decide) (hts _ (gw kw_37 rfl)) (fun _ h9 => h9) rfl dX11_gains_83 ?_
            refine lv_iload_n hx hb dX11_gains_86 rfl (lv_at hl 1 rfl) ?_
            have h_55 : vp_in (nI j) 8 := by first | exact vp_in_nI (by omega) (by omega) | (unfold vp_in; decide) | (subst_vars; first | (unfold vp_in; decide) | exact vp_in_nI (by omega) (by omega))
            refine va_iald hx hb hK hP 35 0 rfl rfl h_55 dX11_gains_87 ?_
            refine lv_topi (fun x_56 e_56 => ?_)
            have hx1 : x_56 = nI (F j) := by rw [e_56, nI_clamp (by omega)]; exact he.2.1.1
            refine lv_aload_n hx hb dX11_gains_88 rfl (lv_at hl 0 rfl) ?_
            refine va_get (D := (dC, dI)) (ci := 11) (v := Value.ref xn) (C := RX11) (T := TX11) (N := 14) hx hb hts inX11 hown hK hP 0 rfl rfl 2 (by decide) (hts _ (gw kw_228 rfl)) (fun _ h9 => h9) rfl dX11_gains_89 ?_
            refine va_get (D := (dC, dI)) (ci := 4) (v := Value.ref ew) (C := RX4) (T := TX4) (N := 8) hx hb hts inX4 hown hK hP 33 rfl rfl 2 (by decide) (hts _ (gw kw_39 rfl)) (fun _ h9 => h9) rfl dX11_gains_92 ?_
            refine lv_iload_n hx hb dX11_gains_95 rfl (lv_at hl 1 rfl) ?_
            have h_57 : vp_in (nI j) 8 := by first | exact vp_in_nI (by omega) (by omega) | (unfold vp_in; decide) | (subst_vars; first | (unfold vp_in; decide) | exact vp_in_nI (by omega) (by omega))
            refine va_iald hx hb hK hP 36 0 rfl rfl h_57 dX11_gains_96 ?_
            refine lv_topi (fun x_58 e_58 => ?_)
            have hx2 : x_58 = nI (W0 j) := by rw [e_58, nI_clamp (by omega)]; exact he.2.2.1
            have hpd9 := pdf_N (cx := [oX4 xt tek tef tew tep tes (nI (j + 1)) (nI sn) dn, cI aC tek 8 tkc, cI aC tef 8 tfc, cI aC tew 8 twc]) hP hD hS hA [39, 40, 41, 42] (by decide) rfl
            have hPc := hpd9.1
            have hDc := hpd9.2.1
            have hFc := hpd9.2.2
            clear hpd9
            refine va_callv (va_runV (As := [Value.int x_54, Value.int x_56, Value.int x_58]) (rest := []) ⟨hx, hb, hml, hown, hts⟩ (c_X4_add l dC dI aC H.size xt tek tef tew tep tes (j + 1) (nI sn) dn tkc tfc twc x_54 x_56 x_58 (by omega)) ⟨(callB_of 3 hts (gG kw_328) rfl rfl rfl (hts _ (gw kw_2 rfl)) (hts _ (gw kw_609 rfl)) hd_X4_add ⟨Nat.le_of_ble_eq_true rfl, Nat.le_of_ble_eq_true rfl⟩), (hts _ (gw kw_326 rfl)), (hts _ (gw kw_327 rfl))⟩ ⟨fb_std, va_recv (q := (RX4, TX4, 8)) hK hPc (ci := 4) (q0 := 0) rfl rfl, pre_std hPc hK hDc hN⟩ rfl rfl hl.1 rfl (lv_room (Nat.le_of_ble_eq_true rfl)) dX11_gains_97 ⟨Nat.le_of_ble_eq_true rfl, Nat.le_of_ble_eq_true rfl⟩) hS (fun q _ h => hFc q h) hFc (fun u9 t9 H1 locs ht hvm hw_59 hB hz1 hk1 hS => ?_)
            obtain ⟨u_60, u_61, u_62⟩ := u9
            obtain ⟨hP1, hK1, hD1⟩ := hB
            rw [ht] at hP1
            clear hK1
            try dsimp only at hw_59
            have hpd9 : PDx (dC, dI) classes A H1 (wp [oX11 h0 xp xtp xn xt xk xl xc xo xto xr xch ts ik st, oX9 xp po pp ps pa pe pb xn pk pu pw pq pt un fw, cA aC po 8 fo, cA aC pp 8 fp, cA aC ps 8 fs, cK aC pk 7 fk, cO k0 0 [], cO k1 1 [], cO k2 3 [], cO k3 5 [], cO k4 6 [], cO k5 10 [], cO k6 8 [], cI aC pa 8 yf, cI aC pe 8 ef0, cI aC pb 8 bf, cI aC pu 7 uf, cI aC pw 7 vf, cI aC pq 128 qf, cI aC pt 128 tf, oX9 xtp tpo tpp tps tpa tpe tpb xt pk tpu tpw tpq tpt tun tfw, cA aC tpo 8 tfo, cA aC tpp 8 tfp, cA aC tps 8 tfs, cI aC tpa 8 tyf, cI aC tpe 8 teg0, cI aC tpb 8 tbf, cI aC tpu 7 tuf, cI aC tpw 7 tvf, cI aC tpq 128 tqf, cI aC tpt 128 ttf, cI aC tep 8 u_7, cI aC tes 5 u_8, oX4 xn ek ef ew ep es (nI n) (nI sn) dn, cI aC ek 8 kf, cI aC ef 8 ff, cI aC ew 8 wf, cI aC ep 8 pf, cI aC es 5 stf, oX4 xt tek tef tew tep tes (nI ((j + 1) + 1)) (nI sn) dn, cI aC tek 8 u_60, cI aC tef 8 u_61, cI aC tew 8 u_62] (va_pl L (plE aC g))) := jn_Q (wr := [oX11 h0 xp xtp xn xt xk xl xc xo xto xr xch ts ik st, oX9 xp po pp ps pa pe pb xn pk pu pw pq pt un fw, cA aC po 8 fo, cA aC pp 8 fp, cA aC ps 8 fs, cK aC pk 7 fk, cO k0 0 [], cO k1 1 [], cO k2 3 [], cO k3 5 [], cO k4 6 [], cO k5 10 [], cO k6 8 [], cI aC pa 8 yf, cI aC pe 8 ef0, cI aC pb 8 bf, cI aC pu 7 uf, cI aC pw 7 vf, cI aC pq 128 qf, cI aC pt 128 tf, oX9 xtp tpo tpp tps tpa tpe tpb xt pk tpu tpw tpq tpt tun tfw, cA aC tpo 8 tfo, cA aC tpp 8 tfp, cA aC tps 8 tfs, cI aC tpa 8 tyf, cI aC tpe 8 teg0, cI aC tpb 8 tbf, cI aC tpu 7 tuf, cI aC tpw 7 tvf, cI aC tpq 128 tqf, cI aC tpt 128 ttf, cI aC tep 8 u_7, cI aC tes 5 u_8, oX4 xn ek ef ew ep es (nI n) (nI sn) dn, cI aC ek 8 kf, cI aC ef 8 ff, cI aC ew 8 wf, cI aC ep 8 pf, cI aC es 5 stf]) hFc hk1 hP1 hD1 hP hD [39, 40, 41, 42] [0, 1, 2, 3, 4, 5, 6, 7, 8, 9, 10, 11, 12, 13, 14, 15, 16, 17, 18, 19, 20, 21, 22, 23, 24, 25, 26, 27, 28, 29, 30, 31, 32, 33, 34, 35, 36, 37, 38] rfl rfl (by decide) (by decide)
            have hP := hpd9.1
            have hD := hpd9.2
            clear hpd9
            generalize H1 = H at hP hS ⊢
            clear hPc hDc hFc hz1 hk1 hP1 hD1 ht hvm
            have ha1 := hw_59
            obtain ⟨x_63, e_63⟩ : ∃ y : Int32, y = (nI j) + 1 := ⟨_, rfl⟩
            refine lv_iinc (v := x_63) (lv' := [(1, Value.int x_63), (0, Value.ref h0)]) hx hb dX11_gains_100 hl (k := 1) rfl (by rw [e_63]; rfl) (by decide) rfl (fun ls hl => ?_)
            have h9 : x_63 = nI (j + 1) := by rw [e_63, nI_1]
            subst h9
            refine lv_goto (tgt := 55) hx hb dX11_gains_103 (by decide) ?_
            exact ih_55 (j + 1) u_60 u_61 u_62 (ms_lt hlt hfu) (by omega) (cns_s hk0 hx0 ha1.1) (cns_s hk1 hx1 ha1.2.1) (cns_s hk2 hx2 ha1.2.2) _ _ _ (plP hP [0, 1, 2, 3, 4, 5, 6, 7, 8, 9, 10, 11, 12, 13, 14, 15, 16, 17, 18, 19, 20, 21, 22, 23, 24, 25, 26, 27, 28, 29, 30, 31, 32, 33, 34, 35, 36, 37, 38, 39, 40, 41, 42] rfl) (plD hD [0, 1, 2, 3, 4, 5, 6, 7, 8, 9, 10, 11, 12, 13, 14, 15, 16, 17, 18, 19, 20, 21, 22, 23, 24, 25, 26, 27, 28, 29, 30, 31, 32, 33, 34, 35, 36, 37, 38, 39, 40, 41, 42] (by decide) rfl) hS (lv_sub hl [1, 0] rfl)
      exact lp_55 ((n - 0) + 1) 0 u_11 u_12 u_13 (Nat.lt_succ_self _) (by omega) (cns_0 rfl ha0.1) (cns_0 rfl ha0.2.1) (cns_0 rfl ha0.2.2) _ _ _ (plP hP [0, 1, 2, 3, 4, 5, 6, 7, 8, 9, 10, 11, 12, 13, 14, 15, 16, 17, 18, 19, 20, 21, 22, 23, 24, 25, 26, 27, 28, 29, 30, 31, 32, 33, 34, 35, 36, 37, 38, 39, 40, 41, 42] rfl) (plD hD [0, 1, 2, 3, 4, 5, 6, 7, 8, 9, 10, 11, 12, 13, 14, 15, 16, 17, 18, 19, 20, 21, 22, 23, 24, 25, 26, 27, 28, 29, 30, 31, 32, 33, 34, 35, 36, 37, 38, 39, 40, 41, 42] (by decide) rfl) hS (lv_sub hl [1, 0] rfl)
    · refine lv_iconst (v := 0) hx hb dX11_gains_22 (by decide) ?_
      have hpd9 := pd_P (cx := [oX11 h0 xp xtp xn xt xk xl xc xo xto xr xch ts ik st, oX9 xp po pp ps pa pe pb xn pk pu pw pq pt un fw, oX4 xn ek ef ew ep es (nI n) (nI sn) dn, cI aC ek 8 kf, cI aC ef 8 ff, cI aC ew 8 wf, cI aC es 5 stf, cA aC po 8 fo, cA aC pp 8 fp, cA aC ps 8 fs, cK aC pk 7 fk, cO k0 0 [], cO k1 1 [], cO k2 3 [], cO k3 5 [], cO k4 6 [], cO k5 10 [], cO k6 8 [], cI aC pa 8 yf, cI aC pe 8 ef0, cI aC pb 8 bf, cI aC pu 7 uf, cI aC pw 7 vf, cI aC pq 128 qf, cI aC pt 128 tf, cI aC ep 8 pf, oX4 xt tek tef tew tep tes tsz tsy tdn, cI aC tek 8 tkf, cI aC tef 8 tff, cI aC tew 8 twf, cI aC tep 8 tpf, cI aC tes 5 tsf, oX9 xtp tpo tpp tps tpa tpe tpb xt pk tpu tpw tpq tpt tun tfw, cA aC tpo 8 tfo, cA aC tpp 8 tfp, cA aC tps 8 tfs, cI aC tpa 8 tyf, cI aC tpe 8 teg0, cI aC tpb 8 tbf, cI aC tpu 7 tuf, cI aC tpw 7 tvf, cI aC tpq 128 tqf, cI aC tpt 128 ttf]) hP hD [0, 1, 2, 3, 4, 5, 6, 7, 8, 9, 10, 11, 12, 13, 14, 15, 16, 17, 18, 19, 20, 21, 22, 23, 24, 25, 26, 27, 28, 29, 30, 31, 32, 33, 34, 35, 36, 37, 38, 39, 40, 41, 42] (by decide) rfl
      have hP9 := hpd9.1
      have hD9 := hpd9.2
      refine W.widen (k := 0) (n := 0) (by omega) (by omega) ?_
      exact W.iret (v := 0) hx hb hr (fun t ht hW => ⟨⟨0, (un, fw, uf, vf, qf, tf, bf, yf, ef0, st, tsz, tsy, tdn, tkf, tff, twf, tpf, tsf, tun, tfw, tuf, tvf, tqf, ttf, tbf, tyf, teg0, g), rfl, ⟨hst, by unfold rGns; rw [if_pos (Or.inr (Nat.le_of_not_lt fun z => c_2 (nI_lt (b := 8) z (by omega))))]⟩, by rw [ht]; exact hP9, va_K.moved hW.alike hK, hD9⟩, hS.F ht⟩) hS.2.2 dX11_gains_23

end

section
/-! 69.lgm -/
def upd_ (f : Nat → Nat) (k v : Nat) (u : Nat) : Nat := if u = k then v else f u
theorem CB_s {k p0 w0 : Nat} {up uw : Nat → Nat} {u0 v0 u2 v2 : Nat → Int32} (h : ∀ u, u < k → (u0 u = nI (up u) ∧ v0 u = nI (uw u)) ∧ uw u ≤ 72 ∧ up u ≤ 1000) (ha : u2 k = nI p0 ∧ (∀ q, q ≠ k → u2 q = u0 q) ∧ v2 k = nI (if 0 < p0 then w0 else 0) ∧ ∀ q, q ≠ k → v2 q = v0 q) (hp : p0 ≤ 1000) (hw : w0 ≤ 72) :
    ∀ u, u < k + 1 → (u2 u = nI (upd_ up k p0 u) ∧ v2 u = nI (upd_ uw k (if 0 < p0 then w0 else 0) u)) ∧ upd_ uw k (if 0 < p0 then w0 else 0) u ≤ 72 ∧ upd_ up k p0 u ≤ 1000 := by
  intro u hu
  unfold upd_
  by_cases e : u = k
  · subst e
    rw [if_pos rfl, if_pos rfl]
    refine ⟨⟨ha.1, ha.2.2.1⟩, ?_, hp⟩
    split <;> omega
  · rw [if_neg e, if_neg e, ha.2.1 u e, ha.2.2.2 u e]
    exact h u (by omega)
theorem two_sh : ∀ i, i < 8 → (2 : Int32) <<< (nI i &&& 31) = (1 : Int32) <<< (nI (i + 1) &&& 31) := by decide +kernel
theorem LG_ex {n sn : Nat} {v a b c y : Int32} (hs : sn < n) (hn : n ≤ 8) (hv : ¬ v = 0) (hz : v &&& y = 0) (ha : a = (1 : Int32) <<< (nI n &&& 31)) (hb : b = (2 : Int32) <<< (nI sn &&& 31)) (hc : c = a - b) (hy : y = c ^^^ (-1)) : ∃ b, sn < b ∧ b < n ∧ bt v b = true := by
  by_cases q : ∃ b, b < 32 ∧ bt v b = true
  · obtain ⟨k, k1, k2⟩ := q
    have h1 : bt c k = decide (sn + 1 ≤ k ∧ k < n) := by
      rw [hc, ha, hb, two_sh sn (by omega)]
      exact left_bits n (by omega) (sn + 1) (by omega) k k1
    have h2 : bt (v &&& y) k = false := by rw [hz]; exact b_0 k
    rw [b_and, k2, Bool.true_and, hy, b_not k1, h1] at h2
    have h3 : sn + 1 ≤ k ∧ k < n := by
      by_cases e : sn + 1 ≤ k ∧ k < n
      · exact e
      · rw [decide_eq_false e] at h2; exact absurd h2 (by decide)
    exact ⟨k, by omega, h3.2, k2⟩
  · exfalso
    exact hv (b_ext (fun k hk => by
      rw [b_0]
      exact Bool.eq_false_iff.mpr fun z => q ⟨k, hk, z⟩))

/-- a league: coins and weight that can be had of the younger men who are not of it -/
def RC (P W : Nat → Nat) (v : Int32) (i : Nat) : Nat → Nat → Nat → Prop
  | 0, A, B => A = 0 ∧ B = 0
  | k + 1, A, B => (bt v (i + 1 + k) = true ∧ RC P W v i k A B) ∨ (bt v (i + 1 + k) = false ∧ ((0 < P (i + 1 + k) ∧ (RC P W v i k A B ∨ ∃ A' B', A = A' + P (i + 1 + k) ∧ B = B' + W (i + 1 + k) ∧ RC P W v i k A' B')) ∨ (P (i + 1 + k) = 0 ∧ ∃ B', B = B' + W (i + 1 + k) ∧ RC P W v i k A B')))
def lgS (f : Nat → Nat) (v : Int32) (i k : Nat) : Nat := sumr (fun j => if bt v j = true then f j else 0) (i + 1) k
def RLG (P W : Nat → Nat) (v : Int32) (i y A B : Nat) : Prop := ∃ A' B', RC P W v i y A' B' ∧ ((0 < lgS P v i y ∧ ((A = A' ∧ B = B') ∨ (A = A' + lgS P v i y ∧ B = B' + lgS W v i y))) ∨ (lgS P v i y = 0 ∧ A = A' ∧ B = B' + lgS W v i y))
def LGE (n : Nat) (W : Nat → Nat) (law : Int32) (cq i : Nat) (P : Nat → Nat) (v : Int32) : Prop := ∃ A B, RLG P W v i (n - 1 - i) A B ∧ nd law (sumr W i (n - i)) ≤ W i + B ∧ A ≤ cq
theorem lgS_s {f : Nat → Nat} {v : Int32} {i k : Nat} : lgS f v i (k + 1) = lgS f v i k + (if bt v (i + 1 + k) = true then f (i + 1 + k) else 0) := rfl
/-- the class's masks of units -/
def UM (k f0 : Nat) (up uw : Nat → Nat) (A B : Nat) : Prop := ∃ z, z < 2 ^ k ∧ cst up z = A ∧ f0 + cst uw z = B
theorem cst_upd {f : Nat → Nat} {k v z : Nat} (hz : z < 2 ^ k) : cst (upd_ f k v) z = cst f z := by
  unfold cst
  refine sumr_congr (fun u _ _ => ?_)
  by_cases e : u = k
  · subst e; rw [Nat.testBit_lt_two_pow hz]; simp
  · unfold upd_; rw [if_neg e]
theorem UM_0 {up uw : Nat → Nat} {A B : Nat} : UM 0 0 up uw A B ↔ A = 0 ∧ B = 0 := by
  constructor
  · rintro ⟨z, h1, h2, h3⟩
    have e : z = 0 := by omega
    subst e
    rw [cst_0] at h2 h3
    omega
  · rintro ⟨h1, h2⟩
    exact ⟨0, by omega, by rw [cst_0]; omega, by rw [cst_0]; omega⟩
theorem UM_s {k f0 p w : Nat} {up uw : Nat → Nat} {A B : Nat} (hk : k < 7) : UM (k + 1) (f0 + (if 0 < p then 0 else w)) (upd_ up k p) (upd_ uw k (if 0 < p then w else 0)) A B ↔ ((0 < p ∧ (UM k f0 up uw A B ∨ ∃ A' B', A = A' + p ∧ B = B' + w ∧ UM k f0 up uw A' B')) ∨ (p = 0 ∧ ∃ B', B = B' + w ∧ UM k f0 up uw A B')) := by
  have hp2 : 2 ^ (k + 1) = 2 ^ k + 2 ^ k := by rw [Nat.pow_succ]; omega
  have hc : ∀ {f : Nat → Nat} {x z : Nat}, z < 2 ^ k → cst (upd_ f k x) (2 ^ k + z) = cst f z + x := fun {f x z} hz => by
    rw [cst_add hk hz, cst_upd hz]
    unfold upd_
    rw [if_pos rfl]
  by_cases hp : 0 < p
  · rw [if_pos hp, if_pos hp]
    constructor
    · rintro ⟨z, h1, h2, h3⟩
      refine Or.inl ⟨hp, ?_⟩
      rcases Nat.lt_or_ge z (2 ^ k) with q | q
      · rw [cst_upd q] at h2 h3
        exact Or.inl ⟨z, q, h2, by omega⟩
      · obtain ⟨y, hy⟩ : ∃ y, z = 2 ^ k + y := ⟨z - 2 ^ k, by omega⟩
        subst hy
        rw [hc (by omega)] at h2 h3
        exact Or.inr ⟨cst up y, f0 + cst uw y, by omega, by omega, y, by omega, rfl, rfl⟩
    · rintro (⟨-, h⟩ | ⟨h, -⟩)
      · rcases h with ⟨z, h1, h2, h3⟩ | ⟨A', B', e1, e2, z, h1, h2, h3⟩
        · exact ⟨z, by omega, by rw [cst_upd h1]; exact h2, by rw [cst_upd h1]; omega⟩
        · exact ⟨2 ^ k + z, by omega, by rw [hc h1]; omega, by rw [hc h1]; omega⟩
      · omega
  · rw [if_neg hp, if_neg hp]
    constructor
    · rintro ⟨z, h1, h2, h3⟩
      refine Or.inr ⟨by omega, ?_⟩
      rcases Nat.lt_or_ge z (2 ^ k) with q | q
      · rw [cst_upd q] at h2 h3
        exact ⟨f0 + cst uw z, by omega, z, q, h2, rfl⟩
      · obtain ⟨y, hy⟩ : ∃ y, z = 2 ^ k + y := ⟨z - 2 ^ k, by omega⟩
        subst hy
        rw [hc (by omega)] at h2 h3
        exact ⟨f0 + cst uw y, by omega, y, by omega, by omega, rfl⟩
    · rintro (⟨h, -⟩ | ⟨h, B', e, z, h1, h2, h3⟩)
      · omega
      · exact ⟨z, by omega, by rw [cst_upd h1]; exact h2, by rw [cst_upd h1]; omega⟩
/-- the class's answer -/
theorem LG_c {n i k f0 cq : Nat} {W P : Nat → Nat} {law v r : Int32} {up uw : Nat → Nat} (hk : k < 7) (hu : ∀ A B, UM k f0 up uw A B ↔ RC P W v i (n - 1 - i) A B)
    (hb : BST (fun z => nd law (sumr W i (n - i)) ≤ W i + (f0 + (if 0 < lgS P v i (n - 1 - i) then 0 else lgS W v i (n - 1 - i))) + cst (upd_ uw k (if 0 < lgS P v i (n - 1 - i) then lgS W v i (n - 1 - i) else 0)) z) (cst (upd_ up k (lgS P v i (n - 1 - i)))) (2 ^ (k + 1)) r) :
    LGE n W law cq i P v ↔ ∃ b, b < 2 ^ (k + 1) ∧ r = nI b ∧ cst (upd_ up k (lgS P v i (n - 1 - i))) b ≤ cq := by
  have hm : ∀ A B, UM (k + 1) (f0 + (if 0 < lgS P v i (n - 1 - i) then 0 else lgS W v i (n - 1 - i))) (upd_ up k (lgS P v i (n - 1 - i))) (upd_ uw k (if 0 < lgS P v i (n - 1 - i) then lgS W v i (n - 1 - i) else 0)) A B ↔ RLG P W v i (n - 1 - i) A B := fun A B => by
    rw [UM_s hk]
    constructor
    · rintro (⟨h, q | ⟨A', B', e1, e2, q⟩⟩ | ⟨h, B', e, q⟩)
      · exact ⟨A, B, (hu A B).mp q, Or.inl ⟨h, Or.inl ⟨rfl, rfl⟩⟩⟩
      · exact ⟨A', B', (hu A' B').mp q, Or.inl ⟨h, Or.inr ⟨e1, e2⟩⟩⟩
      · exact ⟨A, B', (hu A B').mp q, Or.inr ⟨h, rfl, e⟩⟩
    · rintro ⟨A', B', q, ⟨h, ⟨e1, e2⟩ | ⟨e1, e2⟩⟩ | ⟨h, e1, e2⟩⟩
      · exact Or.inl ⟨h, Or.inl (by rw [e1, e2]; exact (hu A' B').mpr q)⟩
      · exact Or.inl ⟨h, Or.inr ⟨A', B', e1, e2, (hu A' B').mpr q⟩⟩
      · exact Or.inr ⟨h, B', e2, by rw [e1]; exact (hu A' B').mpr q⟩
  constructor
  · rintro ⟨A, B, h1, h2, h3⟩
    obtain ⟨z, z1, z2, z3⟩ := (hm A B).mpr h1
    rcases hb with ⟨-, q⟩ | ⟨b, b1, b2, b3, b4⟩
    · exact absurd (by omega) (q z z1)
    · have := b4 z z1 (by omega)
      exact ⟨b, b1, b2, by omega⟩
  · rintro ⟨b, b1, b2, b3⟩
    rcases hb with ⟨q, -⟩ | ⟨b', c1, c2, c3, c4⟩
    · exact absurd (q.symm.trans b2) (m9_ne (by have := p2_le (show k + 1 ≤ 7 by omega); omega))
    · have hp7 := p2_le (show k + 1 ≤ 7 by omega)
      have e : b = b' := (nI_eq (by omega) (by omega)).mp (b2.symm.trans c2)
      subst e
      exact ⟨_, _, (hm _ _).mp ⟨b, b1, rfl, rfl⟩, by omega, b3⟩
/-! the reference's sets reach the same pairs -/
theorem RC_s {P W : Nat → Nat} {v : Int32} {i k A B : Nat} : RC P W v i (k + 1) A B ↔ ((bt v (i + 1 + k) = true ∧ RC P W v i k A B) ∨ (bt v (i + 1 + k) = false ∧ ((0 < P (i + 1 + k) ∧ (RC P W v i k A B ∨ ∃ A' B', A = A' + P (i + 1 + k) ∧ B = B' + W (i + 1 + k) ∧ RC P W v i k A' B')) ∨ (P (i + 1 + k) = 0 ∧ ∃ B', B = B' + W (i + 1 + k) ∧ RC P W v i k A B')))) := Iff.rfl
def TA (P : Nat → Nat) (v : Int32) (S : Nat → Bool) (i k : Nat) : Nat := sumr (fun j => if bt v j = true then 0 else if S j = true then P j else 0) (i + 1) k
def TB (P W : Nat → Nat) (v : Int32) (S : Nat → Bool) (i k : Nat) : Nat := sumr (fun j => if bt v j = true then 0 else if S j = true ∨ P j = 0 then W j else 0) (i + 1) k
theorem TA_s {P : Nat → Nat} {v : Int32} {S : Nat → Bool} {i k : Nat} : TA P v S i (k + 1) = TA P v S i k + (if bt v (i + 1 + k) = true then 0 else if S (i + 1 + k) = true then P (i + 1 + k) else 0) := rfl
theorem TB_s {P W : Nat → Nat} {v : Int32} {S : Nat → Bool} {i k : Nat} : TB P W v S i (k + 1) = TB P W v S i k + (if bt v (i + 1 + k) = true then 0 else if S (i + 1 + k) = true ∨ P (i + 1 + k) = 0 then W (i + 1 + k) else 0) := rfl
theorem RC_set {P W : Nat → Nat} {v : Int32} {i : Nat} (S : Nat → Bool) : ∀ k, RC P W v i k (TA P v S i k) (TB P W v S i k)
  | 0 => ⟨rfl, rfl⟩
  | k + 1 => by
    have h := RC_set (P := P) (W := W) (v := v) (i := i) S k
    rw [TA_s, TB_s]
    by_cases hb : bt v (i + 1 + k) = true
    · rw [if_pos hb, if_pos hb, Nat.add_zero, Nat.add_zero]
      exact RC_s.mpr (Or.inl ⟨hb, h⟩)
    · rw [if_neg hb, if_neg hb]
      refine RC_s.mpr (Or.inr ⟨Bool.eq_false_iff.mpr hb, ?_⟩)
      by_cases hp : P (i + 1 + k) = 0
      · have h0 : (if S (i + 1 + k) = true then P (i + 1 + k) else 0) = 0 := by
          split
          · exact hp
          · rfl
        rw [if_pos (Or.inr hp : S (i + 1 + k) = true ∨ P (i + 1 + k) = 0), h0, Nat.add_zero]
        exact Or.inr ⟨hp, _, rfl, h⟩
      · refine Or.inl ⟨by omega, ?_⟩
        by_cases hs : S (i + 1 + k) = true
        · rw [if_pos hs, if_pos (Or.inl hs : S (i + 1 + k) = true ∨ P (i + 1 + k) = 0)]
          exact Or.inr ⟨_, _, rfl, rfl, h⟩
        · rw [if_neg hs, if_neg (fun q => q.elim hs hp : ¬ (S (i + 1 + k) = true ∨ P (i + 1 + k) = 0)), Nat.add_zero, Nat.add_zero]
          exact Or.inl h
def uS (S : Nat → Bool) (t : Nat) (b : Bool) : Nat → Bool := fun q => if q = t then b else S q
theorem uS_t {S : Nat → Bool} {t : Nat} {b : Bool} : uS S t b t = b := by
  unfold uS
  rw [if_pos rfl]
theorem uS_n {S : Nat → Bool} {t q : Nat} {b : Bool} (h : ¬ q = t) : uS S t b q = S q := by
  unfold uS
  rw [if_neg h]
theorem TA_u {P : Nat → Nat} {v : Int32} {S : Nat → Bool} {b : Bool} {i k : Nat} : TA P v (uS S (i + 1 + k) b) i k = TA P v S i k := by
  unfold TA
  exact sumr_congr (fun j _ h2 => by rw [uS_n (show ¬ j = i + 1 + k by omega)])
theorem TB_u {P W : Nat → Nat} {v : Int32} {S : Nat → Bool} {b : Bool} {i k : Nat} : TB P W v (uS S (i + 1 + k) b) i k = TB P W v S i k := by
  unfold TB
  exact sumr_congr (fun j _ h2 => by rw [uS_n (show ¬ j = i + 1 + k by omega)])
theorem RC_ex {P W : Nat → Nat} {v : Int32} {i : Nat} : ∀ k A B, RC P W v i k A B → ∃ S : Nat → Bool, TA P v S i k = A ∧ TB P W v S i k = B
  | 0, A, B, h => ⟨fun _ => false, h.1.symm, h.2.symm⟩
  | k + 1, A, B, h => by
    rcases RC_s.mp h with ⟨hb, h1⟩ | ⟨hb, ⟨hp, h1 | ⟨A', B', e1, e2, h1⟩⟩ | ⟨hp, B', e2, h1⟩⟩
    · obtain ⟨S, s1, s2⟩ := RC_ex k A B h1
      exact ⟨S, by rw [TA_s, if_pos hb, Nat.add_zero]; exact s1, by rw [TB_s, if_pos hb, Nat.add_zero]; exact s2⟩
    · have hb' : ¬ bt v (i + 1 + k) = true := Bool.eq_false_iff.mp hb
      obtain ⟨S, s1, s2⟩ := RC_ex k A B h1
      exact ⟨uS S (i + 1 + k) false, by rw [TA_s, TA_u, if_neg hb', uS_t, if_neg (by decide : ¬ false = true), Nat.add_zero]; exact s1, by rw [TB_s, TB_u, if_neg hb', uS_t, if_neg (fun q => q.elim (fun z => Bool.noConfusion z) (fun z => by omega) : ¬ (false = true ∨ P (i + 1 + k) = 0)), Nat.add_zero]; exact s2⟩
    · have hb' : ¬ bt v (i + 1 + k) = true := Bool.eq_false_iff.mp hb
      obtain ⟨S, s1, s2⟩ := RC_ex k A' B' h1
      exact ⟨uS S (i + 1 + k) true, by rw [TA_s, TA_u, if_neg hb', uS_t, if_pos (rfl : true = true), s1, e1], by rw [TB_s, TB_u, if_neg hb', uS_t, if_pos (Or.inl rfl : true = true ∨ P (i + 1 + k) = 0), s2, e2]⟩
    · have hb' : ¬ bt v (i + 1 + k) = true := Bool.eq_false_iff.mp hb
      obtain ⟨S, s1, s2⟩ := RC_ex k A B' h1
      exact ⟨uS S (i + 1 + k) false, by rw [TA_s, TA_u, if_neg hb', uS_t, if_neg (by decide : ¬ false = true), Nat.add_zero]; exact s1, by rw [TB_s, TB_u, if_neg hb', uS_t, if_pos (Or.inr hp : false = true ∨ P (i + 1 + k) = 0), s2, e2]⟩
/-- the weight with a set: who asks for nothing votes yes, the league as one man -/
def LGW (P W : Nat → Nat) (v : Int32) (fr i y : Nat) (S : Nat → Bool) : Nat := sumr (fun q => if S q = true ∨ (P q = 0 ∧ ¬ bt v q = true) ∨ (fr = 0 ∧ bt v q = true) then W q else 0) (i + 1) y
theorem lg_cost_d {P : Nat → Nat} {v : Int32} {S : Nat → Bool} {i y : Nat} (h : ∀ q, bt v q = true → S q = false) : sumr (fun q => if S q = true then P q else 0) (i + 1) y = TA P v S i y := by
  unfold TA
  exact sumr_congr (fun q _ _ => by
    by_cases hb : bt v q = true
    · rw [if_pos hb, if_neg (by rw [h q hb]; decide : ¬ S q = true)]
    · rw [if_neg hb])
theorem lg_cost_s {P : Nat → Nat} {v : Int32} {S : Nat → Bool} {i y : Nat} (h : ∀ q, bt v q = true → S q = true) : sumr (fun q => if S q = true then P q else 0) (i + 1) y = TA P v S i y + lgS P v i y := by
  unfold TA lgS
  rw [sumr_add]
  exact sumr_congr (fun q _ _ => by
    by_cases hb : bt v q = true
    · rw [if_pos (h q hb), if_pos hb, if_pos hb, Nat.zero_add]
    · rw [if_neg hb, if_neg hb, Nat.add_zero])
theorem lg_pt {P W : Nat → Nat} {v : Int32} {fr : Nat} {S : Nat → Bool} {q : Nat} (hb : ¬ bt v q = true) : (if S q = true ∨ (P q = 0 ∧ ¬ bt v q = true) ∨ (fr = 0 ∧ bt v q = true) then W q else 0) = (if S q = true ∨ P q = 0 then W q else 0) := by
  by_cases hs : S q = true ∨ P q = 0
  · rw [if_pos hs]
    exact if_pos (hs.elim Or.inl (fun z => Or.inr (Or.inl ⟨z, hb⟩)))
  · rw [if_neg hs]
    exact if_neg (fun z => hs (z.elim Or.inl (fun z => z.elim (fun z => Or.inr z.1) (fun z => absurd z.2 hb))))
theorem lg_w_s {P W : Nat → Nat} {v : Int32} {fr : Nat} {S : Nat → Bool} {i y : Nat} (h : ∀ q, bt v q = true → S q = true) : LGW P W v fr i y S = TB P W v S i y + lgS W v i y := by
  unfold LGW TB lgS
  rw [sumr_add]
  exact sumr_congr (fun q _ _ => by
    by_cases hb : bt v q = true
    · have e1 : (if S q = true ∨ (P q = 0 ∧ ¬ bt v q = true) ∨ (fr = 0 ∧ bt v q = true) then W q else 0) = W q := if_pos (Or.inl (h q hb))
      rw [e1, if_pos hb, if_pos hb, Nat.zero_add]
    · rw [lg_pt hb, if_neg hb, if_neg hb, Nat.add_zero])
theorem lg_w_d {P W : Nat → Nat} {v : Int32} {fr : Nat} {S : Nat → Bool} {i y : Nat} (h : ∀ q, bt v q = true → S q = false) : LGW P W v fr i y S = TB P W v S i y + (if fr = 0 then lgS W v i y else 0) := by
  by_cases hf : fr = 0
  · rw [if_pos hf]
    unfold LGW TB lgS
    rw [sumr_add]
    exact sumr_congr (fun q _ _ => by
      by_cases hb : bt v q = true
      · have e1 : (if S q = true ∨ (P q = 0 ∧ ¬ bt v q = true) ∨ (fr = 0 ∧ bt v q = true) then W q else 0) = W q := if_pos (Or.inr (Or.inr ⟨hf, hb⟩))
        rw [e1, if_pos hb, if_pos hb, Nat.zero_add]
      · rw [lg_pt hb, if_neg hb, if_neg hb, Nat.add_zero])
  · rw [if_neg hf, Nat.add_zero]
    unfold LGW TB
    exact sumr_congr (fun q _ _ => by
      by_cases hb : bt v q = true
      · have e1 : (if S q = true ∨ (P q = 0 ∧ ¬ bt v q = true) ∨ (fr = 0 ∧ bt v q = true) then W q else 0) = 0 := if_neg (fun z => z.elim (fun z => by rw [h q hb] at z; exact absurd z (by decide)) (fun z => z.elim (fun z => z.2 hb) (fun z => hf z.1)))
        rw [e1, if_pos hb]
      · rw [lg_pt hb, if_neg hb])
def QM (n : Nat) (W : Nat → Nat) (law : Int32) (cq i : Nat) (P : Nat → Nat) (v : Int32) (s : Nat) : Prop := BND n i s ∧ ((∀ q, bt v q = true → s.testBit q = false) ∨ (∀ q, bt v q = true → s.testBit q = true)) ∧ cstm P n i s ≤ cq ∧ nd law (sumr W i (n - i)) ≤ W i + LGW P W v (lgS P v i (n - 1 - i)) i (n - 1 - i) s.testBit
theorem LG_m {n i cq : Nat} {W P : Nat → Nat} {law v : Int32} (hv : ∀ q, bt v q = true → i < q ∧ q < n) : (∃ s, s < 2 ^ n ∧ QM n W law cq i P v s) ↔ LGE n W law cq i P v := by
  constructor
  · rintro ⟨s, hs, hB, hd, hc, hw⟩
    have hr := RC_set (P := P) (W := W) (v := v) (i := i) s.testBit (n - 1 - i)
    unfold cstm at hc
    rcases hd with hd | hd
    · rw [lg_cost_d (P := P) (i := i) (y := n - 1 - i) hd] at hc
      rw [lg_w_d (P := P) (W := W) (i := i) (y := n - 1 - i) hd] at hw
      by_cases hf : lgS P v i (n - 1 - i) = 0
      · rw [if_pos hf] at hw
        exact ⟨_, _, ⟨_, _, hr, Or.inr ⟨hf, rfl, rfl⟩⟩, hw, hc⟩
      · rw [if_neg hf, Nat.add_zero] at hw
        exact ⟨_, _, ⟨_, _, hr, Or.inl ⟨by omega, Or.inl ⟨rfl, rfl⟩⟩⟩, hw, hc⟩
    · rw [lg_cost_s (P := P) (i := i) (y := n - 1 - i) hd] at hc
      rw [lg_w_s (P := P) (W := W) (i := i) (y := n - 1 - i) hd] at hw
      by_cases hf : lgS P v i (n - 1 - i) = 0
      · rw [hf, Nat.add_zero] at hc
        exact ⟨_, _, ⟨_, _, hr, Or.inr ⟨hf, rfl, rfl⟩⟩, hw, hc⟩
      · exact ⟨_, _, ⟨_, _, hr, Or.inl ⟨by omega, Or.inr ⟨rfl, rfl⟩⟩⟩, hw, hc⟩
  · rintro ⟨A, B, ⟨A', B', hr, hx⟩, hw, hc⟩
    obtain ⟨S, s1, s2⟩ := RC_ex _ _ _ hr
    have key : ∀ b : Bool, ∃ s, s < 2 ^ n ∧ BND n i s ∧ (∀ q, bt v q = true → s.testBit q = b) ∧ TA P v s.testBit i (n - 1 - i) = A' ∧ TB P W v s.testBit i (n - 1 - i) = B' := fun b => by
      have hbit : ∀ q, (num (fun q => decide (i < q) && (if bt v q = true then b else S q)) n).testBit q = (decide (q < n) && (decide (i < q) && (if bt v q = true then b else S q))) := fun q => num_bit n
      have hin : ∀ q, i < q → q < n → ¬ bt v q = true → (num (fun q => decide (i < q) && (if bt v q = true then b else S q)) n).testBit q = S q := fun q h1 h2 h3 => by
        rw [hbit q, decide_eq_true h1, decide_eq_true h2, if_neg h3, Bool.true_and, Bool.true_and]
      refine ⟨num (fun q => decide (i < q) && (if bt v q = true then b else S q)) n, num_lt n, ?_, ?_, ?_, ?_⟩
      · intro q hq
        rw [hbit q] at hq
        simp only [Bool.and_eq_true, decide_eq_true_eq] at hq
        exact ⟨hq.2.1, hq.1⟩
      · intro q hb
        rw [hbit q, decide_eq_true (hv q hb).2, decide_eq_true (hv q hb).1, if_pos hb, Bool.true_and, Bool.true_and]
      · rw [← s1]
        unfold TA
        exact sumr_congr (fun q h1 h2 => by
          by_cases hb : bt v q = true
          · rw [if_pos hb, if_pos hb]
          · rw [if_neg hb, if_neg hb, hin q (by omega) (by omega) hb])
      · rw [← s2]
        unfold TB
        exact sumr_congr (fun q h1 h2 => by
          by_cases hb : bt v q = true
          · rw [if_pos hb, if_pos hb]
          · rw [if_neg hb, if_neg hb, hin q (by omega) (by omega) hb])
    rcases hx with ⟨hp, ⟨e1, e2⟩ | ⟨e1, e2⟩⟩ | ⟨hp, e1, e2⟩
    · obtain ⟨s, k1, k2, k3, k4, k5⟩ := key false
      refine ⟨s, k1, k2, Or.inl k3, ?_, ?_⟩
      · unfold cstm
        rw [lg_cost_d k3, k4]
        omega
      · rw [lg_w_d k3, k5, if_neg (show ¬ lgS P v i (n - 1 - i) = 0 by omega)]
        omega
    · obtain ⟨s, k1, k2, k3, k4, k5⟩ := key true
      refine ⟨s, k1, k2, Or.inr k3, ?_, ?_⟩
      · unfold cstm
        rw [lg_cost_s k3, k4]
        omega
      · rw [lg_w_s k3, k5]
        omega
    · obtain ⟨s, k1, k2, k3, k4, k5⟩ := key false
      refine ⟨s, k1, k2, Or.inl k3, ?_, ?_⟩
      · unfold cstm
        rw [lg_cost_d k3, k4]
        omega
      · rw [lg_w_d k3, k5, if_pos hp]
        omega
theorem lg_yw {n i fr s : Nat} {W P : Nat → Nat} {v x : Int32} (hi : i < n) (hB : BND n i s) (hv : ∀ q, bt v q = true → i < q ∧ q < n) (hx : ∀ q, q < n → (bt x q = true ↔ (q = i ∨ s.testBit q = true ∨ (i < q ∧ P q = 0 ∧ ¬ bt v q = true) ∨ (fr = 0 ∧ bt v q = true)))) : yw W x 0 n = W i + LGW P W v fr i (n - 1 - i) s.testBit := by
  rw [yw_from (Nat.le_of_lt hi) (fun q hq => Bool.eq_false_iff.mpr (fun z => by
    rcases (hx q (by omega)).mp z with e | e | e | e
    · omega
    · have := hB q e
      omega
    · omega
    · have := hv q e.2
      omega))]
  unfold yw
  rw [show n - i = (n - 1 - i) + 1 by omega, sumr_cons, if_pos ((hx i hi).mpr (Or.inl rfl))]
  unfold LGW
  congr 1
  exact sumr_congr (fun q h1 h2 => by
    by_cases hc : s.testBit q = true ∨ (P q = 0 ∧ ¬ bt v q = true) ∨ (fr = 0 ∧ bt v q = true)
    · rw [if_pos hc, if_pos ((hx q (by omega)).mpr (hc.elim (fun z => Or.inr (Or.inl z)) (fun z => z.elim (fun z => Or.inr (Or.inr (Or.inl ⟨by omega, z⟩))) (fun z => Or.inr (Or.inr (Or.inr z))))))]
    · rw [if_neg hc, if_neg (fun z => hc (((hx q (by omega)).mp z).elim (fun e => by omega) (fun z => z.elim Or.inl (fun z => Or.inr (z.imp (fun y => y.2) id)))))])
theorem bt_lt {v : Int32} {q : Nat} (h : bt v q = true) : q < 32 := by
  rcases Nat.lt_or_ge q 32 with z | z
  · exact z
  · unfold bt at h
    rw [BitVec.getLsbD_of_ge _ _ z] at h
    exact absurd h (by decide)
theorem lg_mask {n i : Nat} {v y : Int32} (hy : ∀ b, b < 32 → bt y b = decide (i < b ∧ b < n)) : v &&& (y ^^^ (-1)) = 0 ↔ ∀ q, bt v q = true → i < q ∧ q < n := by
  constructor
  · intro h q hq
    have hq2 := bt_lt hq
    have h1 : bt (v &&& (y ^^^ (-1))) q = false := by rw [h, b_0]
    rw [b_and, hq, Bool.true_and, b_not hq2, hy q hq2] at h1
    by_cases e : i < q ∧ q < n
    · exact e
    · rw [decide_eq_false e] at h1
      exact absurd h1 (by decide)
  · intro h
    apply b_ext
    intro q hq
    rw [b_and, b_0]
    cases hb : bt v q with
    | false => rfl
    | true =>
      rw [b_not hq, hy q hq, decide_eq_true (h q hb)]
      rfl
theorem lg_and0 {n i s : Nat} {v : Int32} (hn : n ≤ 8) (hs : s < 2 ^ n) (hv : ∀ q, bt v q = true → i < q ∧ q < n) : nI s &&& v = 0 ↔ ∀ q, bt v q = true → s.testBit q = false := by
  have h8 := p28 hn
  constructor
  · intro h q hq
    have h1 : bt (nI s &&& v) q = false := by rw [h, b_0]
    have h2 := hv q hq
    rw [b_and, hq, Bool.and_true, b_get (by omega) (by omega)] at h1
    exact h1
  · intro h
    apply b_ext
    intro q hq
    rw [b_and, b_0]
    cases hb : bt v q with
    | false => exact Bool.and_false _
    | true =>
      have h2 := hv q hb
      rw [b_get (by omega) (by omega), h q hb]
      rfl
theorem lg_sub0 {n i s : Nat} {v : Int32} (hn : n ≤ 8) (hs : s < 2 ^ n) (hv : ∀ q, bt v q = true → i < q ∧ q < n) : v &&& (nI s ^^^ (-1)) = 0 ↔ ∀ q, bt v q = true → s.testBit q = true := by
  have h8 := p28 hn
  constructor
  · intro h q hq
    have h1 : bt (v &&& (nI s ^^^ (-1))) q = false := by rw [h, b_0]
    have h2 := hv q hq
    rw [b_and, hq, Bool.true_and, b_not (by omega), b_get (by omega) (by omega)] at h1
    cases h3 : s.testBit q with
    | true => rfl
    | false => rw [h3] at h1; exact absurd h1 (by decide)
  · intro h
    apply b_ext
    intro q hq
    rw [b_and, b_0]
    cases hb : bt v q with
    | false => rfl
    | true =>
      have h2 := hv q hb
      rw [b_not hq, b_get (by omega) (by omega), h q hb]
      rfl
/-- how many bits -/
def LGN (v : Int32) : Nat := sumr (fun b => if bt v b = true then 1 else 0) 0 8
def LGNn (x : Nat) : Nat := sumr (fun b => if x.testBit b = true then 1 else 0) 0 8
def LGM (n sn : Nat) (v : Int32) : Prop := (∀ q, bt v q = true → sn < q ∧ q < n) ∧ 2 ≤ LGN v
theorem LGN_n {x : Nat} (hx : x < 256) : LGN (nI x) = LGNn x := sumr_congr (fun b _ h2 => by rw [b_get (by omega) (by omega)])
theorem LGN_le {v : Int32} : LGN v ≤ 8 := by
  have := sumr_le (f := fun b => if bt v b = true then 1 else 0) (a := 0) (b := 1) (k := 8) (fun j _ _ => by split <;> omega)
  unfold LGN
  omega
theorem lg_nat {v : Int32} (h : ∀ q, bt v q = true → q < 8) : ∃ x, x < 256 ∧ v = nI x := by
  have hl := num_lt (f := fun q => bt v q) 8
  refine ⟨num (fun q => bt v q) 8, by omega, b_ext (fun q hq => ?_)⟩
  have hb : bt v q = (decide (q < 8) && bt v q) := by
    cases hv : bt v q with
    | false => exact (Bool.and_false _).symm
    | true => rw [decide_eq_true (h q hv)]; rfl
  by_cases e : q < 31
  · rw [b_get (by omega) e, num_bit 8]
    exact hb
  · have e2 : q = 31 := by omega
    subst e2
    rw [hb]
    show _ = (BitVec.ofNat 32 (num (fun q => bt v q) 8)).getLsbD 31
    rw [BitVec.getLsbD_ofNat, Nat.testBit_lt_two_pow (by omega)]
    simp
theorem lg_31 {v : Int32} (h : ∀ q, bt v q = true → q < 8) : sumr (fun b => if bt v b = true then 1 else 0) 0 31 = LGN v := by
  unfold LGN
  rw [show 31 = 8 + 23 by omega]
  refine sumr_ext0 (fun j h1 h2 => ?_)
  rw [if_neg (fun z => by have := h j z; omega)]
def LGR (n sn : Nat) (dn : Int32) (K F W S5 : Nat → Nat) (v r : Int32) : Prop := (OVR n dn → r = -3) ∧ (¬ OVR n dn → ¬ LGM n sn v → r = -1) ∧ (¬ OVR n dn → LGM n sn v → LGE n W (nI (S5 1)) (S5 0) sn (zP (PO n K F W S5) sn) v → r = 1) ∧ (¬ OVR n dn → LGM n sn v → ¬ LGE n W (nI (S5 1)) (S5 0) sn (zP (PO n K F W S5) sn) v → r = 0)
theorem LGR_un {n sn : Nat} {dn : Int32} {K F W S5 : Nat → Nat} {v r r' : Int32} (h : LGR n sn dn K F W S5 v r) (h' : LGR n sn dn K F W S5 v r') : r = r' := by
  by_cases h1 : OVR n dn
  · rw [h.1 h1, h'.1 h1]
  · by_cases h2 : LGM n sn v
    · by_cases h3 : LGE n W (nI (S5 1)) (S5 0) sn (zP (PO n K F W S5) sn) v
      · rw [h.2.2.1 h1 h2 h3, h'.2.2.1 h1 h2 h3]
      · rw [h.2.2.2 h1 h2 h3, h'.2.2.2 h1 h2 h3]
    · rw [h.2.1 h1 h2, h'.2.1 h1 h2]
theorem LGR_o {n sn : Nat} {dn : Int32} {K F W S5 : Nat → Nat} {v : Int32} (h : OVR n dn) : LGR n sn dn K F W S5 v (-3) := ⟨fun _ => rfl, fun q => absurd h q, fun q => absurd h q, fun q => absurd h q⟩
theorem LGR_m {n sn : Nat} {dn : Int32} {K F W S5 : Nat → Nat} {v : Int32} (h : ¬ OVR n dn) (h2 : ¬ LGM n sn v) : LGR n sn dn K F W S5 v (-1) := ⟨fun q => absurd q h, fun _ _ => rfl, fun _ q => absurd q h2, fun _ q => absurd q h2⟩
theorem LGR_1 {n sn : Nat} {dn : Int32} {K F W S5 : Nat → Nat} {v : Int32} (h : ¬ OVR n dn) (h2 : LGM n sn v) (h3 : LGE n W (nI (S5 1)) (S5 0) sn (zP (PO n K F W S5) sn) v) : LGR n sn dn K F W S5 v 1 := ⟨fun q => absurd q h, fun _ q => absurd h2 q, fun _ _ _ => rfl, fun _ _ q => absurd h3 q⟩
theorem LGR_0 {n sn : Nat} {dn : Int32} {K F W S5 : Nat → Nat} {v : Int32} (h : ¬ OVR n dn) (h2 : LGM n sn v) (h3 : ¬ LGE n W (nI (S5 1)) (S5 0) sn (zP (PO n K F W S5) sn) v) : LGR n sn dn K F W S5 v 0 := ⟨fun q => absurd q h, fun _ q => absurd h2 q, fun _ _ q => absurd q h3, fun _ _ _ => rfl⟩
theorem LGNn_le {x : Nat} : LGNn x ≤ 8 := by
  have := sumr_le (f := fun b => if x.testBit b = true then 1 else 0) (a := 0) (b := 1) (k := 8) (fun j _ _ => by split <;> omega)
  unfold LGNn
  omega
theorem RC_y {P W : Nat → Nat} {v : Int32} {i j A B : Nat} (hj : i < j) (hb : bt v j = true) : RC P W v i (j + 1 - (i + 1)) A B ↔ RC P W v i (j - (i + 1)) A B := by
  rw [show j + 1 - (i + 1) = (j - (i + 1)) + 1 by omega, RC_s, show i + 1 + (j - (i + 1)) = j by omega, hb]
  constructor
  · rintro (⟨-, h⟩ | ⟨h, -⟩)
    · exact h
    · exact absurd h (by decide)
  · exact fun h => Or.inl ⟨rfl, h⟩
theorem RC_n {P W : Nat → Nat} {v : Int32} {i j A B : Nat} (hj : i < j) (hb : bt v j = false) : RC P W v i (j + 1 - (i + 1)) A B ↔ ((0 < P j ∧ (RC P W v i (j - (i + 1)) A B ∨ ∃ A' B', A = A' + P j ∧ B = B' + W j ∧ RC P W v i (j - (i + 1)) A' B')) ∨ (P j = 0 ∧ ∃ B', B = B' + W j ∧ RC P W v i (j - (i + 1)) A B')) := by
  rw [show j + 1 - (i + 1) = (j - (i + 1)) + 1 by omega, RC_s, show i + 1 + (j - (i + 1)) = j by omega, hb]
  constructor
  · rintro (⟨h, -⟩ | ⟨-, h⟩)
    · exact absurd h (by decide)
    · exact h
  · exact fun h => Or.inr ⟨rfl, h⟩
theorem lgS_y {f : Nat → Nat} {v : Int32} {i j : Nat} (hj : i < j) (hb : bt v j = true) : lgS f v i (j + 1 - (i + 1)) = lgS f v i (j - (i + 1)) + f j := by
  rw [show j + 1 - (i + 1) = (j - (i + 1)) + 1 by omega, lgS_s, show i + 1 + (j - (i + 1)) = j by omega, if_pos hb]
theorem lgS_n {f : Nat → Nat} {v : Int32} {i j : Nat} (hj : i < j) (hb : bt v j = false) : lgS f v i (j + 1 - (i + 1)) = lgS f v i (j - (i + 1)) := by
  rw [show j + 1 - (i + 1) = (j - (i + 1)) + 1 by omega, lgS_s, show i + 1 + (j - (i + 1)) = j by omega, if_neg (Bool.eq_false_iff.mp hb), Nat.add_zero]
theorem UM_RC {P W : Nat → Nat} {v : Int32} {i j k f0 : Nat} {up uw : Nat → Nat} (hk : k < 7) (hj : i < j) (hb : bt v j = false) (h : ∀ A B, UM k f0 up uw A B ↔ RC P W v i (j - (i + 1)) A B) : ∀ A B, UM (k + 1) (f0 + (if 0 < P j then 0 else W j)) (upd_ up k (P j)) (upd_ uw k (if 0 < P j then W j else 0)) A B ↔ RC P W v i (j + 1 - (i + 1)) A B := fun A B => by
  rw [UM_s hk, RC_n hj hb]
  simp only [h]
theorem LG_c2 {n i k f0 cq p0 w0 : Nat} {W P : Nat → Nat} {law v r : Int32} {up uw : Nat → Nat} (hk : k < 7) (hp : p0 = lgS P v i (n - 1 - i)) (hw : w0 = lgS W v i (n - 1 - i)) (hu : ∀ A B, UM k f0 up uw A B ↔ RC P W v i (n - 1 - i) A B)
    (hb : BST (fun z => nd law (sumr W i (n - i)) ≤ W i + (f0 + (if 0 < p0 then 0 else w0)) + cst (upd_ uw k (if 0 < p0 then w0 else 0)) z) (cst (upd_ up k p0)) (2 ^ (k + 1)) r) :
    LGE n W law cq i P v ↔ ∃ b, b < 2 ^ (k + 1) ∧ r = nI b ∧ cst (upd_ up k p0) b ≤ cq := by
  subst hp
  subst hw
  exact LG_c hk hu hb
theorem sumr_ge {f : Nat → Nat} {a j : Nat} : ∀ {k : Nat}, a ≤ j → j < a + k → f j ≤ sumr f a k
  | 0, h1, h2 => by omega
  | k + 1, h1, h2 => by
    show f j ≤ sumr f a k + f (a + k)
    by_cases e : j = a + k
    · rw [e]; omega
    · have := sumr_ge (f := f) (a := a) (j := j) (k := k) h1 (by omega)
      omega
theorem lgS_pos {P : Nat → Nat} {v : Int32} {n i j : Nat} (h1 : i < j) (h2 : j < n) (hb : bt v j = true) (hp : 0 < P j) : ¬ lgS P v i (n - 1 - i) = 0 := by
  have h := sumr_ge (f := fun j => if bt v j = true then P j else 0) (a := i + 1) (j := j) (k := n - 1 - i) (by omega) (by omega)
  have h3 : (if bt v j = true then P j else 0) = P j := if_pos hb
  unfold lgS
  intro q
  rw [q] at h
  have h4 : (if bt v j = true then P j else 0) ≤ 0 := h
  omega
theorem lg_wx {n i s fr : Nat} {P : Nat → Nat} {v u w x : Int32} (hi : i < n ∧ n ≤ 8) (hs : s < 2 ^ n) (hu : ∀ b, b < 32 → bt u b = (decide (i < b ∧ b < n ∧ P b = 0) && !bt v b)) (hx : x = ((nI s ||| u) ||| ((1 : Int32) <<< (nI i &&& 31))) ||| w) (hw : (w = v ∧ fr = 0) ∨ (w = 0 ∧ ¬ fr = 0)) :
    ∀ q, q < n → (bt x q = true ↔ (q = i ∨ s.testBit q = true ∨ (i < q ∧ P q = 0 ∧ ¬ bt v q = true) ∨ (fr = 0 ∧ bt v q = true))) := by
  have h8 := p28 hi.2
  intro q hq
  rw [hx, b_or, b_or, b_or, b_one i (by omega) q (by omega), hu q (by omega), b_get (by omega) (by omega)]
  simp only [Bool.or_eq_true, Bool.and_eq_true, decide_eq_true_eq, Bool.not_eq_true']
  constructor
  · rintro (((h | ⟨⟨h1, h2, h3⟩, h4⟩) | h) | h)
    · exact Or.inr (Or.inl h)
    · exact Or.inr (Or.inr (Or.inl ⟨h1, h3, by rw [h4]; decide⟩))
    · exact Or.inl h
    · rcases hw with ⟨e, f⟩ | ⟨e, f⟩
      · rw [e] at h; exact Or.inr (Or.inr (Or.inr ⟨f, h⟩))
      · rw [e, b_0] at h; exact absurd h (by decide)
  · rintro (h | h | ⟨h1, h2, h3⟩ | ⟨h1, h2⟩)
    · exact Or.inl (Or.inr h)
    · exact Or.inl (Or.inl (Or.inl h))
    · exact Or.inl (Or.inl (Or.inr ⟨⟨h1, hq, h2⟩, Bool.eq_false_iff.mpr h3⟩))
    · rcases hw with ⟨e, f⟩ | ⟨e, f⟩
      · rw [e]; exact Or.inr h2
      · exact absurd h1 f

end

