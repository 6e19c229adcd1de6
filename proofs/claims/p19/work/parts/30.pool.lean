/-! rows of int[8][8] among the pooled cells -/
abbrev plE (aC : Nat → ClassId) (g : Nat → Nat → Int32) : Nat → va_E := fun a => .inl (aC 0, 8, .inl (g a))
theorem plE_up {aC : Nat → ClassId} {g : Nat → Nat → Int32} {a : Nat} {u : Nat → Int32} : va_up (plE aC g) a (.inl (aC 0, 8, .inl u)) = plE aC (va_up g a u) := by
  funext b
  unfold va_up plE
  dsimp only
  by_cases h : b = a
  · rw [if_pos h, if_pos h]
  · rw [if_neg h, if_neg h]
abbrev wp (X P : va_W) : va_W := X ++ P
/-- the rows of a plan: outer arrays and where their rows lie -/
def GRD (L : List Nat) (fo fp fs : Nat → Option Nat) (ro rp rs : Nat → Nat) : Prop := (∀ q, q < 8 → (fo q = some (ro q) ∧ ro q ∈ L) ∧ (fp q = some (rp q) ∧ rp q ∈ L) ∧ (fs q = some (rs q) ∧ rs q ∈ L)) ∧
  (∀ q r, q < 8 → r < 8 → (ro q = ro r → q = r) ∧ (rp q = rp r → q = r) ∧ (rs q = rs r → q = r) ∧ ro q ≠ rp r ∧ ro q ≠ rs r ∧ rp q ≠ rs r)
section PLR
variable {p : Program} {l : Launch} {e : Env} {R : Room} {s : State} {m : MethodId} {args : Array Value} {below : List Frame} {meth : Method} {c : Code} {H : Heap} {locs : List Loc} {cells slots : Nat} {Q : State → Prop}
variable {cc : ByteArray} {pc : Nat} {ls : Array Slot} {rest : List Value} {D : va_G} {cl : List vw_C} {A : Nat → Prop} {aC : Nat → ClassId} {X ws : va_W} {H0 : Heap} {L : List Nat} {g : Nat → Nat → Int32} {a : Nat}
theorem va_alda (hexec : p.tables.exec = Jvm.exec) (hb : c.code = cc) (hK : va_K D cl (TY aC) s) (hP : va_P D cl ws H) (q0 : Nat) {n r : Nat} {f : Nat → Option Nat} (ha : ws[q0]? = some (a, .inl (aC 4, n, .inr (.inr (.inr (.inr f)))))) {i : Int32} (hin : vp_in i n) (hr : f i.toNatClampNeg = some r) (hdg : decode cc pc = .ok (.aaload, 1))
    (kk : W p l e R s m args below meth c H locs cells slots Q (F0 m (pc + 1) ls (.ref r :: rest))) : W p l e R s m args below meth c H locs cells slots Q (F0 m pc ls (.int i :: .ref a :: rest)) := by
  have hlt : i.toNatClampNeg < n := Nat.not_le.mp fun q => hin (Or.inr q)
  have e9 : va_rf (f i.toNatClampNeg) = .ref r := by rw [hr]; rfl
  rw [← e9] at kk
  exact W.aald (v := va_rf (f i.toNatClampNeg)) (ty := .array .int) hexec hb (hP q0 _ ha) ((hK.2 4 _ rfl).1 n (fun j => va_rf (f j))) rfl (fun q => by cases q) (by show ¬ (i < 0 ∨ (arrV _ _ _).slots.size ≤ _); rw [arrV_size]; exact hin) (by show (arrV _ _ _).slots[_]? = _; rw [arrV_read _ _ hlt]) rfl rfl hdg kk
/-- a reference out of the kinds' array -/
theorem va_aldk (hexec : p.tables.exec = Jvm.exec) (hb : c.code = cc) (hK : va_K D cl (TY aC) s) (hP : va_P D cl ws H) (q0 : Nat) {n r : Nat} {f : Nat → Option Nat} (ha : ws[q0]? = some (a, .inl (aC 3, n, .inr (.inr (.inr (.inr f)))))) {i : Int32} (hin : vp_in i n) (hr : f i.toNatClampNeg = some r) (hdg : decode cc pc = .ok (.aaload, 1))
    (kk : W p l e R s m args below meth c H locs cells slots Q (F0 m (pc + 1) ls (.ref r :: rest))) : W p l e R s m args below meth c H locs cells slots Q (F0 m pc ls (.int i :: .ref a :: rest)) := by
  have e9 : va_rf (f i.toNatClampNeg) = .ref r := by rw [hr]; rfl
  rw [← e9] at kk
  exact va_aldq hexec hb hK hP q0 3 ha rfl hin hdg kk
theorem pl_iald (hexec : p.tables.exec = Jvm.exec) (hb : c.code = cc) (hK : va_K D cl (TY aC) s) (hP : va_P D cl (X ++ va_pl L (plE aC g)) H) (ha : a ∈ L) {i : Int32} (hin : vp_in i 8) (hdg : decode cc pc = .ok (.iaload, 1))
    (kk : W p l e R s m args below meth c H locs cells slots Q (F0 m (pc + 1) ls (.int (g a i.toNatClampNeg) :: rest))) : W p l e R s m args below meth c H locs cells slots Q (F0 m pc ls (.int i :: .ref a :: rest)) := by
  obtain ⟨k, hk⟩ := va_pl_get (X := X) (f := plE aC g) ha
  exact va_iald hexec hb hK hP k 0 hk rfl hin hdg kk
theorem pl_alen (hexec : p.tables.exec = Jvm.exec) (hb : c.code = cc) (hK : va_K D cl (TY aC) s) (hP : va_P D cl (X ++ va_pl L (plE aC g)) H) (ha : a ∈ L) (hdg : decode cc pc = .ok (.arraylength, 1))
    (kk : W p l e R s m args below meth c H locs cells slots Q (F0 m (pc + 1) ls (.int 8 :: rest))) : W p l e R s m args below meth c H locs cells slots Q (F0 m pc ls (.ref a :: rest)) := by
  obtain ⟨k, hk⟩ := va_pl_get (X := X) (f := plE aC g) ha
  exact va_alen hexec hb hK hP k 0 hk rfl rfl hdg kk
theorem pl_iast (hexec : p.tables.exec = Jvm.exec) (hb : c.code = cc) (hK : va_K D cl (TY aC) s) (hP : va_P D cl (X ++ va_pl L (plE aC g)) H) (hD : va_D A (X ++ va_pl L (plE aC g))) (hS : va_S A H0 H locs) (ha : a ∈ L) {i x : Int32} (hin : vp_in i 8) (hdg : decode cc pc = .ok (.iastore, 1))
    (kk : ∀ (H1 : Heap) (locs1 : List Loc), va_P D cl (X ++ va_pl L (plE aC (va_up g a (upd (g a) i.toNatClampNeg x)))) H1 → va_D A (X ++ va_pl L (plE aC (va_up g a (upd (g a) i.toNatClampNeg x)))) → va_S A H0 H1 locs1 → W p l e R s m args below meth c H1 locs1 cells slots Q (F0 m (pc + 1) ls rest)) : W p l e R s m args below meth c H locs cells slots Q (F0 m pc ls (.int x :: .int i :: .ref a :: rest)) := by
  obtain ⟨k, hk⟩ := va_pl_get (X := X) (f := plE aC g) ha
  refine va_iast hexec hb hK hP hD hS k 0 hk rfl hin hdg (fun H1 locs1 h1 h2 h3 => ?_)
  rw [va_pl_set hD ha hk, plE_up] at h1 h2
  exact kk H1 locs1 h1 h2 h3
theorem pl_copyi (hexec : p.tables.exec = Jvm.exec) (hb : c.code = cc) (hml : c.maxLocals = ls.size) {own : String} {index : Nat} (hown : s.vm.findClass own = some m.cls) (hlink : (Cond.methodLink own index arraycopyName).before args s = true) (hnat : (Cond.native arraycopyName).before args s = true) (hstat : (Cond.static arraycopyName).before args s = true) (hini : (Cond.initialized "java/lang/System").before args s = true)
    (hK : va_K D cl (TY aC) s) (hP : va_P D cl (X ++ va_pl L (plE aC g)) H) (hD : va_D A (X ++ va_pl L (plE aC g))) (hS : va_S A H0 H locs) {a0 : Nat} (ha0 : a0 ∈ L) (ha : a ∈ L)
    (hframes : 1 ≤ R.frames) (hlocals : (rest.map fun v => v.category).sum + (nativeFrameWords "java/lang/System" "arraycopy" 5 + 11) ≤ R.locals) (hdg : decode cc pc = .ok (.invokestatic index, 3))
    (kk : ∀ (H1 : Heap) (locs1 : List Loc), va_P D cl (X ++ va_pl L (plE aC (va_up g a (va_cpy (g a0) (g a) 0 0 8)))) H1 → va_D A (X ++ va_pl L (plE aC (va_up g a (va_cpy (g a0) (g a) 0 0 8)))) → va_S A H0 H1 locs1 → W p l e R s m args below meth c H1 locs1 cells slots Q (F0 m (pc + 3) ls rest)) : W p l e R s m args below meth c H locs cells slots Q (F0 m pc ls (.int 8 :: .int 0 :: .ref a :: .int 0 :: .ref a0 :: rest)) := by
  obtain ⟨k0, hk0⟩ := va_pl_get (X := X) (f := plE aC g) ha0
  obtain ⟨k1, hk1⟩ := va_pl_get (X := X) (f := plE aC g) ha
  refine va_copyi (ty := .int) hexec hb hml hown hlink hnat hstat hini hK hP hD hS k0 k1 0 0 hk0 hk1 rfl rfl rfl (by decide) (by decide) (by decide) (by decide) (by decide) (fun _ _ => rfl) hframes hlocals hdg (fun H1 locs1 h1 h2 h3 => ?_)
  have e : ∀ w, (X ++ va_pl L (plE aC g)).set k1 (a, .inl (aC 0, 8, .inl w)) = X ++ va_pl L (plE aC (va_up g a w)) := fun w => by rw [va_pl_set hD ha hk1, plE_up]
  rw [e] at h1 h2
  exact kk H1 locs1 h1 h2 h3
end PLR
/-- a part of the cells, and the pool -/
theorem plP {D : va_G} {cl : List vw_C} {X cx pl : va_W} {H : Heap} (hP : va_P D cl (X ++ pl) H) (is : List Nat) (hs : is.map (fun i => X[i]?) = cx.map some) : va_P D cl (cx ++ pl) H := hP.by _ (va_part is hs)
theorem plF {A0 : Nat → Prop} {X cx pl : va_W} {H0 H : Heap} {locs : List Loc} (hD : va_D A0 (X ++ pl)) (hS : va_S A0 H0 H locs) (hA : ∀ q, H0.size ≤ q → A0 q) (is : List Nat) (hs : is.map (fun i => X[i]?) = cx.map some) : ∀ q, va_A (cx ++ pl) H.size q → A0 q := by
  intro q h
  rcases h with ⟨k, e, hk⟩ | h
  · exact hD.2 _ _ (va_part is hs k _ hk)
  · exact hA q (Nat.le_trans hS.1 h)
theorem nd_inj : ∀ {l : List Nat}, va_nd l = true → ∀ {i j : Nat}, i < l.length → j < l.length → l[i]? = l[j]? → i = j := by
  intro l h i j hi hj he
  have := va_D.sub (A := fun _ => True) (ws := (List.range (l.foldl max 0 + 1)).map (fun a => (a, (.inr (0, []) : va_E)))) (ws' := l.map (fun a => (a, (.inr (0, []) : va_E)))) ⟨fun i j p q h1 h2 h3 => by
    simp only [List.getElem?_map, Option.map_eq_some_iff] at h1 h2
    obtain ⟨a, ha, rfl⟩ := h1
    obtain ⟨b, hb, rfl⟩ := h2
    have e1 : a = i := by
      obtain ⟨q1, q2⟩ := List.getElem?_eq_some_iff.mp ha
      simpa using q2.symm
    have e2 : b = j := by
      obtain ⟨q1, q2⟩ := List.getElem?_eq_some_iff.mp hb
      simpa using q2.symm
    have h3 : a = b := h3
    omega, fun _ _ _ => trivial⟩ l h (by
    rw [List.map_map]
    apply List.map_congr_left
    intro a ha
    have hle : ∀ (l : List Nat) (x b : Nat), b ∈ l → b ≤ l.foldl max x := by
      intro l
      induction l with
      | nil => intro x b h; simp at h
      | cons c l ih =>
        intro x b h
        have hx : ∀ (l : List Nat) (x : Nat), x ≤ l.foldl max x := by
          intro l
          induction l with
          | nil => intro x; exact Nat.le_refl x
          | cons c l ih => intro x; exact Nat.le_trans (Nat.le_max_left x c) (ih _)
        rcases List.mem_cons.mp h with rfl | h
        · exact Nat.le_trans (Nat.le_max_right x b) (hx l _)
        · exact ih _ _ h
    have := hle l 0 a ha
    simp only [List.getElem?_map, Function.comp]
    rw [List.getElem?_range (by omega)]
    rfl)
  refine this.1 i j (l[i], .inr (0, [])) (l[j], .inr (0, [])) ?_ ?_ ?_
  · simp [hi]
  · simp [hj]
  · rw [List.getElem?_eq_getElem hi, List.getElem?_eq_getElem hj] at he
    exact Option.some.inj he
theorem plD {A0 : Nat → Prop} {X cx pl : va_W} (hD : va_D A0 (X ++ pl)) (is : List Nat) (hn : va_nd is = true) (hs : is.map (fun i => X[i]?) = cx.map some) : va_D A0 (cx ++ pl) := by
  have hlen : is.length = cx.length := by have := congrArg List.length hs; simpa using this
  have hlt : ∀ i, i < cx.length → (is[i]?).getD 0 < X.length := fun i hi => by
    have h1 : (is.map (fun i => X[i]?))[i]? = (cx.map some)[i]? := by rw [hs]
    rw [List.getElem?_map, List.getElem?_map, List.getElem?_eq_getElem (by omega : i < is.length), List.getElem?_eq_getElem hi] at h1
    simp only [Option.map_some] at h1
    rw [List.getElem?_eq_getElem (by omega : i < is.length)]
    exact (List.getElem?_eq_some_iff.mp (Option.some.inj h1)).1
  refine ⟨fun i j p q hi hj e => ?_, fun k q hk => hD.2 _ _ (va_part is hs k _ hk)⟩
  have h := hD.1 _ _ p q (va_part is hs i _ hi) (va_part is hs j _ hj) e
  by_cases h1 : i < cx.length
  · by_cases h2 : j < cx.length
    · rw [if_pos h1, if_pos h2] at h
      refine nd_inj hn (by omega) (by omega) ?_
      rw [List.getElem?_eq_getElem (by omega : i < is.length), List.getElem?_eq_getElem (by omega : j < is.length)] at h ⊢
      exact congrArg some h
    · rw [if_pos h1, if_neg h2] at h
      have := hlt i h1
      omega
  · by_cases h2 : j < cx.length
    · rw [if_neg h1, if_pos h2] at h
      have := hlt j h2
      omega
    · rw [if_neg h1, if_neg h2] at h
      omega
theorem pdf_P {D : va_G} {cl : List vw_C} {A0 : Nat → Prop} {X cx pl : va_W} {H0 H : Heap} {locs : List Loc} (hP : va_P D cl (X ++ pl) H) (hD : va_D A0 (X ++ pl)) (hS : va_S A0 H0 H locs) (hA : ∀ q, H0.size ≤ q → A0 q) (is : List Nat) (hn : va_nd is = true) (hs : is.map (fun i => X[i]?) = cx.map some) : va_P D cl (cx ++ pl) H ∧ va_D A0 (cx ++ pl) ∧ ∀ q, va_A (cx ++ pl) H.size q → A0 q :=
  ⟨plP hP is hs, plD hD is hn hs, plF hD hS hA is hs⟩
theorem pd_P {D : va_G} {cl : List vw_C} {A0 : Nat → Prop} {X cx pl : va_W} {H : Heap} (hP : va_P D cl (X ++ pl) H) (hD : va_D A0 (X ++ pl)) (is : List Nat) (hn : va_nd is = true) (hs : is.map (fun i => X[i]?) = cx.map some) : va_P D cl (cx ++ pl) H ∧ va_D A0 (cx ++ pl) :=
  ⟨plP hP is hs, plD hD is hn hs⟩
theorem jn_P {A0 : Nat → Prop} {D : va_G} {cl : List vw_C} {X cx wr rx pl pl1 : va_W} {H H1 : Heap} (hF : ∀ q, va_A (cx ++ pl) H.size q → A0 q) (hk : ∀ q : Nat, q < H.size → ¬ va_A (cx ++ pl) H.size q → H1[q]? = H[q]?) (hP1 : va_P D cl (rx ++ pl1) H1) (hD1 : va_D (va_A (cx ++ pl) H.size) (rx ++ pl1)) (hP : va_P D cl (X ++ pl) H) (hD : va_D A0 (X ++ pl)) (isC isR : List Nat) (hC : isC.map (fun i => X[i]?) = cx.map some) (hR : isR.map (fun i => X[i]?) = wr.map some) (hn : va_nd isR = true) (hdis : ∀ i ∈ isR, i ∉ isC) : va_P D cl ((wr ++ rx) ++ pl1) H1 ∧ va_D A0 ((wr ++ rx) ++ pl1) :=
  va_joinP hP hD isC isR hC hR hn hdis hk hF hP1 hD1
theorem jn_Q {A0 : Nat → Prop} {D : va_G} {cl : List vw_C} {X cx wr w1 pl : va_W} {H H1 : Heap} (hF : ∀ q, va_A cx H.size q → A0 q) (hk : ∀ q : Nat, q < H.size → ¬ va_A cx H.size q → H1[q]? = H[q]?) (hP1 : va_P D cl w1 H1) (hD1 : va_D (va_A cx H.size) w1) (hP : va_P D cl (X ++ pl) H) (hD : va_D A0 (X ++ pl)) (isC isR : List Nat) (hC : isC.map (fun i => X[i]?) = cx.map some) (hR : isR.map (fun i => X[i]?) = wr.map some) (hn : va_nd isR = true) (hdis : ∀ i ∈ isR, i ∉ isC) : va_P D cl ((wr ++ w1) ++ pl) H1 ∧ va_D A0 ((wr ++ w1) ++ pl) :=
  va_joinQ hP hD isC isR hC hR hn hdis hk hF hP1 hD1
