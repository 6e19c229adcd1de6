def va_AOA (t : FieldType) (U : State) : Prop := (Cond.arrayOver (.array t)).before #[] U = true
theorem va_AOA.use {t : FieldType} {A : Array Value} {U : State} (h : va_AOA t U) : (Cond.arrayOver (.array t)).before A U = true := h
/-! ===== BEGIN words of one list among another's, by their places ===== -/
theorem goodIn_r {big : List Cond} (ws : List Cond) (ps : List Nat) (hp : ws = ps.filterMap (fun i => big[i]?)) (h : ws.all goodWord = true) : GoodIn big ws := by
  intro w hw
  have h1 := List.all_eq_true.mp h w hw
  rw [hp] at hw
  obtain ⟨i, -, hi⟩ := List.mem_filterMap.mp hw
  have hm : w ∈ big := by first | exact List.mem_of_getElem? hi | exact List.getElem?_mem hi
  exact ⟨hm, good_of_word h1⟩
theorem goodIn_app {big a b : List Cond} (ha : GoodIn big a) (hb : GoodIn big b) : GoodIn big (a ++ b) := fun w h => (List.mem_append.mp h).elim (ha w) (hb w)
theorem goodIn_ca {big a b : List Cond} {c : Cond} (ha : GoodIn big (c :: a)) (hb : GoodIn big b) : GoodIn big (c :: (a ++ b)) := fun w h => (List.mem_cons.mp h).elim (fun e => ha w (List.mem_cons.mpr (Or.inl e))) (fun h => (List.mem_append.mp h).elim (fun h => ha w (List.mem_cons.mpr (Or.inr h))) (hb w))
theorem goodIn_sub {big ws : List Cond} (hm : ∀ w ∈ ws, w ∈ big) (h : ws.all goodWord = true) : GoodIn big ws := fun w hw => ⟨hm w hw, good_of_word (List.all_eq_true.mp h w hw)⟩
/-! ===== END ===== -/

/-! ===== BEGIN new T[n][m]: the outer array a place, the inner ones among the pooled ===== -/
/-- f, but v at every address of l -/
def vr_up {α : Type} (f : Nat → α) (l : List Nat) (v : α) : Nat → α := fun a => if a ∈ l then v else f a
theorem vr_up_in {α : Type} {f : Nat → α} {l : List Nat} {v : α} {a : Nat} (h : a ∈ l) : vr_up f l v a = v := if_pos h
theorem vr_up_ne {α : Type} {f : Nat → α} {l : List Nat} {v : α} {a : Nat} (h : a ∉ l) : vr_up f l v a = f a := if_neg h
theorem vr_rows {L l : List Nat} {f : Nat → va_E} {e : va_E} (h : ∀ a, a ∈ l → a ∉ L) : va_pl L f ++ l.map (fun a => (a, e)) = va_pl (L ++ l) (vr_up f l e) := by
  unfold va_pl
  rw [List.map_append]
  congr 1
  · apply List.map_congr_left
    intro a ha
    rw [vr_up_ne (fun q => h a q ha)]
  · apply List.map_congr_left
    intro a ha
    rw [vr_up_in ha]
theorem vr_lay {X rows : va_W} {x : Nat × va_E} {pl : va_W} {D : va_G} {cl : List vw_C} {H : Heap} (hP : va_P D cl (((X ++ pl) ++ [x]) ++ rows) H) : va_P D cl ((X ++ [x]) ++ (pl ++ rows)) H := by
  rw [List.append_assoc (X ++ pl)] at hP
  have h := va_P.swap hP
  rw [← List.append_assoc X] at h
  have h2 := va_P.swap h
  rw [List.append_assoc (X ++ [x])] at h2
  exact h2
theorem vr_layD {X rows : va_W} {x : Nat × va_E} {pl : va_W} {A : Nat → Prop} (hD : va_D A (((X ++ pl) ++ [x]) ++ rows)) : va_D A ((X ++ [x]) ++ (pl ++ rows)) := by
  rw [List.append_assoc (X ++ pl)] at hD
  have h := va_D.swap hD
  rw [← List.append_assoc X] at h
  have h2 := va_D.swap h
  rw [List.append_assoc (X ++ [x])] at h2
  exact h2
theorem vr_outer (c : ClassId) (N h0 : Nat) : ∀ i : Nat, Jvm.Free.Multi.outerC c N h0 i = arrV c N (fun j => va_rf (if j < i then some (h0 + 1 + j) else none))
  | 0 => by
    show ({ cls := c, slots := Array.replicate N .null, vm := .none } : Cell) = _
    rw [arrV_new]
    refine congrArg (arrV c N) (funext fun j => ?_)
    simp [va_rf]
  | i + 1 => by
    show (Jvm.Free.Multi.outerC c N h0 i).setSlot i (.ref (h0 + 1 + i)) = _
    rw [vr_outer c N h0 i, arrV_store]
    refine congrArg (arrV c N) (funext fun j => ?_)
    by_cases e : j = i
    · subst e
      simp [updV, va_rf]
    · by_cases h : j < i
      · simp [updV, e, h, Nat.lt_succ_of_lt h]
      · simp [updV, e, h, show ¬ j < i + 1 by omega]
section VGM
variable {p : Program} {l : Launch} {e : Env} {R : Room} {s : State} {m : MethodId} {args : Array Value} {below : List Frame} {meth : Method} {c : Code} {H : Heap} {locs : List Loc} {cells slots : Nat} {Q : State → Prop}
variable {cc : ByteArray} {pc : Nat} {ls : Array Slot} {rest : List Value} {D : va_G} {cl : List vw_C} {A : Nat → Prop} {a : Nat} {tys : List (ClassId × FieldType)} {ws : va_W} {H0 : Heap}
theorem va_mna {X : va_W} {L : List Nat} {f : Nat → va_E} {cc : ByteArray} (hexec : p.tables.exec = Jvm.exec) (hb : c.code = cc) {own : String} {index : Nat} {ty : FieldType} {cy : ClassId} (hown : s.vm.findClass own = some m.cls) (hclink : (Cond.classLink own index ("[" ++ (FieldType.array ty).toString)).before args s = true) (hover : va_AOA ty s) (harr : (Cond.arrayClass ty).before args s = true) (hcy : s.vm.findClass (FieldType.array ty).toString = some cy)
    (hK : va_K D cl tys s) (hP : va_P D cl (X ++ va_pl L f) H) (hD : va_D A (X ++ va_pl L f)) (hS : va_S A H0 H locs) (hA : ∀ q, H0.size ≤ q → A q) {n k : Int32} {N' K' : Nat} {z : vp_A} (hn : ¬ n < 0) (hk : ¬ k < 0) (hN : n.toNatClampNeg = N') (hM : k.toNatClampNeg = K')
    (hb1 : N' * 4 ≤ 536870912) (hb2 : K' * componentBytes ty ≤ 536870912) (hb3 : K' ≤ 536870912) (hdf : fits ty (defaultValue ty) = true) (hdd : (defaultValue ty).isDefault = true) (hcells : cells + (1 + N') ≤ R.cells) (hslots : slots + (N' + N' * K') ≤ R.slots) (hz : ∀ c : ClassId, Jvm.Free.Multi.innerC c K' (defaultValue ty) = vp_cell c z) (hdg : decode cc pc = .ok (.multianewarray index 2, 4))
    (kk : ∀ (q : Nat) (r : Nat → Nat) (cA : ClassId) (H1 : Heap), (∀ i j : Nat, i < N' → j < N' → r i = r j → i = j) → (∀ i : Nat, i < N' → r i ∉ L) → va_K D cl (tys ++ [(cA, .array ty)]) s →
      va_P D cl ((X ++ [(q, .inl (cA, N', .inr (.inr (.inr (.inr (fun i => if i < N' then some (r i) else none))))))]) ++ va_pl (L ++ (List.range N').map r) (vr_up f ((List.range N').map r) (.inl (cy, z)))) H1 → va_D A ((X ++ [(q, .inl (cA, N', .inr (.inr (.inr (.inr (fun i => if i < N' then some (r i) else none))))))]) ++ va_pl (L ++ (List.range N').map r) (vr_up f ((List.range N').map r) (.inl (cy, z)))) → va_S A H0 H1 locs →
      W p l e R s m args below meth c H1 locs (cells + 1 + N') (slots + N' + N' * K') Q (F0 m (pc + 4) ls (.ref q :: rest))) : W p l e R s m args below meth c H locs cells slots Q (F0 m pc ls (.int k :: .int n :: rest)) := by
  subst hN
  subst hM
  intro T hT Xs
  obtain ⟨vm₁, cA, comp, -, fA, fC, hO, -, X', step⟩ := Xs.multianewarray2F hexec hown hclink (va_AOA.use hover) harr (g := F0 m pc ls (.int k :: .int n :: rest)) rfl (by rw [hb]; exact hdg) rfl hn hk hb1 hb2 hb3 hdf hdd hcells hslots
  have ec : some cy = some comp := hcy.symm.trans fC
  cases ec
  generalize hF : Jvm.Free.Multi.fill (T.setVm vm₁) cA cy n.toNatClampNeg k.toNatClampNeg (defaultValue ty) n.toNatClampNeg = F at X' step
  have hTh : (T.setVm vm₁).heap = H := hT
  obtain ⟨f1, f2, -, -⟩ := Jvm.Free.Multi.fill_facts (T.setVm vm₁) cA cy n.toNatClampNeg k.toNatClampNeg (defaultValue ty) n.toNatClampNeg
  rw [hF, hTh] at f1 f2
  have hold : ∀ x : Nat, x < H.size → F.heap[x]? = H[x]? := fun x hx => by
    have := Jvm.Free.Multi.fill_old (T.setVm vm₁) cA cy n.toNatClampNeg k.toNatClampNeg (defaultValue ty) (a := x) (by rw [hTh]; exact hx) n.toNatClampNeg
    rw [hF, hTh] at this
    exact this
  have hrow : ∀ j : Nat, j < n.toNatClampNeg → F.heap[H.size + 1 + j]? = some (vp_cell cy z) := fun j hj => by
    have := Jvm.Free.Multi.fill_inner (T.setVm vm₁) cA cy n.toNatClampNeg k.toNatClampNeg (defaultValue ty) n.toNatClampNeg j hj
    rw [hF, hTh, hz] at this
    exact this
  have hout : Jvm.Free.Multi.outerC cA n.toNatClampNeg H.size n.toNatClampNeg = vp_cell cA (n.toNatClampNeg, .inr (.inr (.inr (.inr (fun i => if i < n.toNatClampNeg then some (H.size + 1 + i) else none))))) := by
    rw [vp_cell_q]
    exact vr_outer cA n.toNatClampNeg H.size n.toNatClampNeg
  rw [hout] at f2
  have hlt : ∀ a, a ∈ L → a < H.size := fun a ha => by
    obtain ⟨k9, hk9⟩ := va_pl_get (X := X) (f := f) ha
    exact (hP k9 _ hk9).lt
  have hnl : ∀ i : Nat, i < n.toNatClampNeg → H.size + 1 + i ∉ L := fun i _ h => by
    have := hlt _ h
    omega
  have hnm : ∀ a, a ∈ (List.range n.toNatClampNeg).map (fun i => H.size + 1 + i) → a ∉ L := fun a ha h => by
    obtain ⟨i, -, rfl⟩ := List.mem_map.mp ha
    have := hlt _ h
    omega
  have hP0 : va_P D cl (X ++ va_pl L f) F.heap := hP.kept (fun k9 x hx => hold x.1 ((hP k9 x hx).lt))
  have hP1 : va_P D cl ((X ++ va_pl L f) ++ [(H.size, .inl (cA, n.toNatClampNeg, .inr (.inr (.inr (.inr (fun i => if i < n.toNatClampNeg then some (H.size + 1 + i) else none))))))]) F.heap := hP0.app (fun k9 x hx => by
    have h0 : k9 < 1 := (List.getElem?_eq_some_iff.mp hx).1
    rw [show k9 = 0 by omega] at hx
    cases hx
    exact f2)
  have hP2 : va_P D cl (((X ++ va_pl L f) ++ [(H.size, .inl (cA, n.toNatClampNeg, .inr (.inr (.inr (.inr (fun i => if i < n.toNatClampNeg then some (H.size + 1 + i) else none))))))]) ++ ((List.range n.toNatClampNeg).map (fun i => H.size + 1 + i)).map (fun a => (a, .inl (cy, z)))) F.heap := hP1.app (fun k9 x hx => by
    obtain ⟨a, ha, rfl⟩ := List.mem_map.mp (List.mem_of_getElem? hx)
    obtain ⟨i, hi, rfl⟩ := List.mem_map.mp ha
    exact hrow i (List.mem_range.mp hi))
  have hD2 : va_D A (((X ++ va_pl L f) ++ [(H.size, .inl (cA, n.toNatClampNeg, .inr (.inr (.inr (.inr (fun i => if i < n.toNatClampNeg then some (H.size + 1 + i) else none))))))]) ++ ((List.range n.toNatClampNeg).map (fun i => H.size + 1 + i)).map (fun a => (a, .inl (cy, z)))) := by
    have hD1 := hD.push (e := .inl (cA, n.toNatClampNeg, .inr (.inr (.inr (.inr (fun i => if i < n.toNatClampNeg then some (H.size + 1 + i) else none)))))) hP rfl (hA _ hS.1)
    generalize hW1 : (X ++ va_pl L f) ++ [(H.size, .inl (cA, n.toNatClampNeg, .inr (.inr (.inr (.inr (fun i => if i < n.toNatClampNeg then some (H.size + 1 + i) else none))))))] = W1 at hD1 hP1 ⊢
    have hle : ∀ (k9 : Nat) (x : Nat × va_E), W1[k9]? = some x → x.1 ≤ H.size := fun k9 x hx => by
      rw [← hW1] at hx
      by_cases hl : k9 < (X ++ va_pl L f).length
      · rw [List.getElem?_append_left hl] at hx
        exact Nat.le_of_lt ((hP k9 x hx).lt)
      · rw [List.getElem?_append_right (by omega)] at hx
        have h0 : k9 - (X ++ va_pl L f).length < 1 := (List.getElem?_eq_some_iff.mp hx).1
        rw [show k9 - (X ++ va_pl L f).length = 0 by omega] at hx
        cases hx
        exact Nat.le_refl _
    have hr : ∀ (k9 : Nat) (x : Nat × va_E), (((List.range n.toNatClampNeg).map (fun i => H.size + 1 + i)).map (fun a => ((a, .inl (cy, z)) : Nat × va_E)))[k9]? = some x → x.1 = H.size + 1 + k9 := fun k9 x hx => by
      rw [List.getElem?_map, List.getElem?_map] at hx
      by_cases h9 : k9 < n.toNatClampNeg
      · rw [List.getElem?_range h9] at hx
        cases hx
        rfl
      · have hn0 : (List.range n.toNatClampNeg)[k9]? = none := List.getElem?_eq_none (by rw [List.length_range]; omega)
        rw [hn0] at hx
        cases hx
    refine ⟨fun i j x y hi hj hxy => ?_, fun k9 x hx => ?_⟩
    · by_cases h1 : i < W1.length <;> by_cases h2 : j < W1.length
      · rw [List.getElem?_append_left h1] at hi
        rw [List.getElem?_append_left h2] at hj
        exact hD1.1 i j x y hi hj hxy
      · rw [List.getElem?_append_left h1] at hi
        rw [List.getElem?_append_right (by omega)] at hj
        have := hle _ _ hi
        have := hr _ _ hj
        omega
      · rw [List.getElem?_append_right (by omega)] at hi
        rw [List.getElem?_append_left h2] at hj
        have := hle _ _ hj
        have := hr _ _ hi
        omega
      · rw [List.getElem?_append_right (by omega)] at hi hj
        have := hr _ _ hi
        have := hr _ _ hj
        omega
    · by_cases h1 : k9 < W1.length
      · rw [List.getElem?_append_left h1] at hx
        exact hD1.2 k9 x hx
      · rw [List.getElem?_append_right (by omega)] at hx
        have := hr _ _ hx
        exact hA _ (by have := hS.1; omega)
  have hAr : ArrOfT s cA (.array ty) := fun N9 z9 => by
    obtain ⟨-, k9, hk9, cm9, hkk9⟩ := (hO 0 0 0).1
    exact ⟨(fun q hq => by cases hq), k9, hk9, cm9, hkk9⟩
  have hK2 : va_K D cl (tys ++ [(cA, .array ty)]) s := ⟨hK.1, fun k9 x hx => by
    by_cases hl : k9 < tys.length
    · rw [List.getElem?_append_left hl] at hx
      exact hK.2 k9 x hx
    · rw [List.getElem?_append_right (by omega)] at hx
      have h0 : k9 - tys.length < 1 := (List.getElem?_eq_some_iff.mp hx).1
      rw [show k9 - tys.length = 0 by omega] at hx
      cases hx
      exact ⟨hAr, fA⟩⟩
  obtain ⟨t, a1, b1⟩ := kk H.size (fun i => H.size + 1 + i) cA F.heap (fun i j _ _ h => by have h9 : H.size + 1 + i = H.size + 1 + j := h; omega) hnl hK2 (by rw [← vr_rows hnm]; exact vr_lay hP2) (by rw [← vr_rows hnm]; exact vr_layD hD2) ⟨by rw [f1]; have := hS.1; omega, fun x h1 h2 => (hold x (Nat.lt_of_lt_of_le h1 hS.1)).trans (hS.2.1 x h1 h2), hS.2.2⟩ F rfl X'
  refine ⟨t, step t ?_, b1⟩
  have e : T.heap.size = H.size := by rw [hT]
  rw [e]
  exact a1
end VGM
/-! ===== END ===== -/

/-! ===== BEGIN printed: names, fields, word lists, decode rows ===== -/
def RX0 : String := "EldestSays$Clever"
def TX0 : u_T := fun k => match k with
  | _ => ("", "", "", false)
def tyX0 : Nat → FieldType := fun k => match k with
  | _ => .int
abbrev wsX00 : List Cond := u_ws RX0 TX0 0
theorem nmX0 : ∀ a, a < 0 → ∀ b, b < 0 → a ≠ b → (TX0 a).2.1 ≠ (TX0 b).2.1 := by decide +kernel
theorem tyX0_ok : ∀ k, k < 0 → parseFieldDescriptor (TX0 k).2.2.1 = some (tyX0 k) := by decide +kernel
abbrev cX0_init : ByteArray := prog_2_method_1_code
def yX0_init : MethodName := ⟨RX0, "<init>", "()V"⟩
abbrev cX0_ask : ByteArray := prog_2_method_2_code
def yX0_ask : MethodName := ⟨RX0, "ask", "(III)I"⟩
abbrev cX0_tell : ByteArray := prog_2_method_3_code
def yX0_tell : MethodName := ⟨RX0, "tell", "(LEldestSays$Plans;I)V"⟩
def RX1 : String := "EldestSays$Company"
def TX1 : u_T := fun k => match k with
  | _ => ("", "", "", false)
def tyX1 : Nat → FieldType := fun k => match k with
  | _ => .int
abbrev wsX10 : List Cond := u_ws RX1 TX1 0
theorem nmX1 : ∀ a, a < 0 → ∀ b, b < 0 → a ≠ b → (TX1 a).2.1 ≠ (TX1 b).2.1 := by decide +kernel
theorem tyX1_ok : ∀ k, k < 0 → parseFieldDescriptor (TX1 k).2.2.1 = some (tyX1 k) := by decide +kernel
abbrev cX1_init : ByteArray := prog_3_method_1_code
def yX1_init : MethodName := ⟨RX1, "<init>", "()V"⟩
abbrev cX1_ask : ByteArray := prog_3_method_2_code
def yX1_ask : MethodName := ⟨RX1, "ask", "(III)I"⟩
def RX2 : String := "EldestSays$Crowd"
def TX2 : u_T := fun k => match k with
  | 0 => ("EldestSays$Crowd", "shares", "[I", true)
  | 1 => ("EldestSays$Crowd", "asked", "[I", true)
  | 2 => ("EldestSays$Crowd", "offer", "[I", true)
  | 3 => ("EldestSays$Crowd", "clever", "LEldestSays$Clever;", true)
  | 4 => ("EldestSays$Crowd", "size", "I", false)
  | _ => ("EldestSays$Crowd", "coins", "I", false)
def tyX2 : Nat → FieldType := fun k => match k with
  | 0 => .array .int
  | 1 => .array .int
  | 2 => .array .int
  | 3 => .object "EldestSays$Clever"
  | 4 => .int
  | _ => .int
abbrev wsX20 : List Cond := u_ws RX2 TX2 6
theorem nmX2 : ∀ a, a < 6 → ∀ b, b < 6 → a ≠ b → (TX2 a).2.1 ≠ (TX2 b).2.1 := by decide +kernel
theorem tyX2_ok : ∀ k, k < 6 → parseFieldDescriptor (TX2 k).2.2.1 = some (tyX2 k) := by decide +kernel
abbrev cX2_init : ByteArray := prog_4_method_1_code
def yX2_init : MethodName := ⟨RX2, "<init>", "(LEldestSays$Clever;)V"⟩
abbrev cX2_solve : ByteArray := prog_4_method_2_code
def yX2_solve : MethodName := ⟨RX2, "solve", "(II[I)V"⟩
abbrev cX2_askYounger : ByteArray := prog_4_method_3_code
def yX2_askYounger : MethodName := ⟨RX2, "askYounger", "(II)I"⟩
abbrev cX2_votesLacking : ByteArray := prog_4_method_4_code
def yX2_votesLacking : MethodName := ⟨RX2, "votesLacking", "(III)I"⟩
abbrev cX2_buyYounger : ByteArray := prog_4_method_5_code
def yX2_buyYounger : MethodName := ⟨RX2, "buyYounger", "(III)I"⟩
abbrev cX2_nextLevel : ByteArray := prog_4_method_6_code
def yX2_nextLevel : MethodName := ⟨RX2, "nextLevel", "(II)I"⟩
abbrev cX2_buyAtLevel : ByteArray := prog_4_method_7_code
def yX2_buyAtLevel : MethodName := ⟨RX2, "buyAtLevel", "(IIII)I"⟩
def RX3 : String := "EldestSays$Envious"
def TX3 : u_T := fun k => match k with
  | _ => ("", "", "", false)
def tyX3 : Nat → FieldType := fun k => match k with
  | _ => .int
abbrev wsX30 : List Cond := u_ws RX3 TX3 0
theorem nmX3 : ∀ a, a < 0 → ∀ b, b < 0 → a ≠ b → (TX3 a).2.1 ≠ (TX3 b).2.1 := by decide +kernel
theorem tyX3_ok : ∀ k, k < 0 → parseFieldDescriptor (TX3 k).2.2.1 = some (tyX3 k) := by decide +kernel
abbrev cX3_init : ByteArray := prog_5_method_1_code
def yX3_init : MethodName := ⟨RX3, "<init>", "()V"⟩
abbrev cX3_ask : ByteArray := prog_5_method_2_code
def yX3_ask : MethodName := ⟨RX3, "ask", "(III)I"⟩
def RX4 : String := "EldestSays$Evening"
def TX4 : u_T := fun k => match k with
  | 0 => ("EldestSays$Evening", "kinds", "[I", true)
  | 1 => ("EldestSays$Evening", "figures", "[I", true)
  | 2 => ("EldestSays$Evening", "weights", "[I", true)
  | 3 => ("EldestSays$Evening", "purses", "[I", true)
  | 4 => ("EldestSays$Evening", "settings", "[I", true)
  | 5 => ("EldestSays$Evening", "size", "I", false)
  | 6 => ("EldestSays$Evening", "sayer", "I", false)
  | _ => ("EldestSays$Evening", "isDone", "Z", false)
def tyX4 : Nat → FieldType := fun k => match k with
  | 0 => .array .int
  | 1 => .array .int
  | 2 => .array .int
  | 3 => .array .int
  | 4 => .array .int
  | 5 => .int
  | 6 => .int
  | _ => .boolean
abbrev wsX40 : List Cond := u_ws RX4 TX4 8
theorem nmX4 : ∀ a, a < 8 → ∀ b, b < 8 → a ≠ b → (TX4 a).2.1 ≠ (TX4 b).2.1 := by decide +kernel
theorem tyX4_ok : ∀ k, k < 8 → parseFieldDescriptor (TX4 k).2.2.1 = some (tyX4 k) := by decide +kernel
abbrev cX4_init : ByteArray := prog_6_method_1_code
def yX4_init : MethodName := ⟨RX4, "<init>", "()V"⟩
abbrev cX4_copy : ByteArray := prog_6_method_2_code
def yX4_copy : MethodName := ⟨RX4, "copy", "(LEldestSays$Evening;)V"⟩
abbrev cX4_has : ByteArray := prog_6_method_3_code
def yX4_has : MethodName := ⟨RX4, "has", "(I)Z"⟩
abbrev cX4_isOver : ByteArray := prog_6_method_4_code
def yX4_isOver : MethodName := ⟨RX4, "isOver", "()Z"⟩
abbrev cX4_add : ByteArray := prog_6_method_5_code
def yX4_add : MethodName := ⟨RX4, "add", "(III)V"⟩
abbrev cX4_weightFrom : ByteArray := prog_6_method_6_code
def yX4_weightFrom : MethodName := ⟨RX4, "weightFrom", "(I)I"⟩
abbrev cX4_weightLeft : ByteArray := prog_6_method_7_code
def yX4_weightLeft : MethodName := ⟨RX4, "weightLeft", "()I"⟩
abbrev cX4_isCarried : ByteArray := prog_6_method_8_code
def yX4_isCarried : MethodName := ⟨RX4, "isCarried", "(II)Z"⟩
abbrev cX4_decide : ByteArray := prog_6_method_9_code
def yX4_decide : MethodName := ⟨RX4, "decide", "(I[II)I"⟩
abbrev cX4_part : ByteArray := prog_6_method_10_code
def yX4_part : MethodName := ⟨RX4, "part", "([II)V"⟩
abbrev cX4_putAshore : ByteArray := prog_6_method_11_code
def yX4_putAshore : MethodName := ⟨RX4, "putAshore", "()V"⟩
def RX5 : String := "EldestSays$Fair"
def TX5 : u_T := fun k => match k with
  | _ => ("", "", "", false)
def tyX5 : Nat → FieldType := fun k => match k with
  | _ => .int
abbrev wsX50 : List Cond := u_ws RX5 TX5 0
theorem nmX5 : ∀ a, a < 0 → ∀ b, b < 0 → a ≠ b → (TX5 a).2.1 ≠ (TX5 b).2.1 := by decide +kernel
theorem tyX5_ok : ∀ k, k < 0 → parseFieldDescriptor (TX5 k).2.2.1 = some (tyX5 k) := by decide +kernel
abbrev cX5_init : ByteArray := prog_7_method_1_code
def yX5_init : MethodName := ⟨RX5, "<init>", "()V"⟩
abbrev cX5_tell : ByteArray := prog_7_method_2_code
def yX5_tell : MethodName := ⟨RX5, "tell", "(LEldestSays$Plans;I)V"⟩
def RX6 : String := "EldestSays$Fool"
def TX6 : u_T := fun k => match k with
  | _ => ("", "", "", false)
def tyX6 : Nat → FieldType := fun k => match k with
  | _ => .int
abbrev wsX60 : List Cond := u_ws RX6 TX6 0
theorem nmX6 : ∀ a, a < 0 → ∀ b, b < 0 → a ≠ b → (TX6 a).2.1 ≠ (TX6 b).2.1 := by decide +kernel
theorem tyX6_ok : ∀ k, k < 0 → parseFieldDescriptor (TX6 k).2.2.1 = some (tyX6 k) := by decide +kernel
abbrev cX6_init : ByteArray := prog_8_method_1_code
def yX6_init : MethodName := ⟨RX6, "<init>", "()V"⟩
abbrev cX6_ask : ByteArray := prog_8_method_2_code
def yX6_ask : MethodName := ⟨RX6, "ask", "(III)I"⟩
abbrev cX6_tell : ByteArray := prog_8_method_3_code
def yX6_tell : MethodName := ⟨RX6, "tell", "(LEldestSays$Plans;I)V"⟩
def RX7 : String := "EldestSays$Letters"
def TX7 : u_T := fun k => match k with
  | 0 => ("EldestSays$Letters", "size", "I", false)
  | _ => ("EldestSays$Letters", "signs", "[C", true)
def tyX7 : Nat → FieldType := fun k => match k with
  | 0 => .int
  | _ => .array .char
abbrev wsX70 : List Cond := u_ws RX7 TX7 2
theorem nmX7 : ∀ a, a < 2 → ∀ b, b < 2 → a ≠ b → (TX7 a).2.1 ≠ (TX7 b).2.1 := by decide +kernel
theorem tyX7_ok : ∀ k, k < 2 → parseFieldDescriptor (TX7 k).2.2.1 = some (tyX7 k) := by decide +kernel
abbrev cX7_init : ByteArray := prog_9_method_1_code
def yX7_init : MethodName := ⟨RX7, "<init>", "()V"⟩
abbrev cX7_isFull : ByteArray := prog_9_method_2_code
def yX7_isFull : MethodName := ⟨RX7, "isFull", "()Z"⟩
abbrev cX7_add : ByteArray := prog_9_method_3_code
def yX7_add : MethodName := ⟨RX7, "add", "(C)I"⟩
abbrev cX7_forget : ByteArray := prog_9_method_4_code
def yX7_forget : MethodName := ⟨RX7, "forget", "()V"⟩
abbrev cX7_fault : ByteArray := prog_9_method_5_code
def yX7_fault : MethodName := ⟨RX7, "fault", "(LEldestSays$Evening;)I"⟩
abbrev cX7_tell : ByteArray := prog_9_method_6_code
def yX7_tell : MethodName := ⟨RX7, "tell", "(LEldestSays$Evening;)I"⟩
abbrev cX7_brokenAt : ByteArray := prog_9_method_7_code
def yX7_brokenAt : MethodName := ⟨RX7, "brokenAt", "()I"⟩
abbrev cX7_digitsOf : ByteArray := prog_9_method_8_code
def yX7_digitsOf : MethodName := ⟨RX7, "digitsOf", "(C)I"⟩
abbrev cX7_isDigit : ByteArray := prog_9_method_9_code
def yX7_isDigit : MethodName := ⟨RX7, "isDigit", "(C)Z"⟩
abbrev cX7_wrongAt : ByteArray := prog_9_method_10_code
def yX7_wrongAt : MethodName := ⟨RX7, "wrongAt", "(LEldestSays$Evening;)I"⟩
abbrev cX7_isRight : ByteArray := prog_9_method_11_code
def yX7_isRight : MethodName := ⟨RX7, "isRight", "(IIZ)Z"⟩
abbrev cX7_tellOne : ByteArray := prog_9_method_12_code
def yX7_tellOne : MethodName := ⟨RX7, "tellOne", "(LEldestSays$Evening;II)V"⟩
abbrev cX7_digit : ByteArray := prog_9_method_13_code
def yX7_digit : MethodName := ⟨RX7, "digit", "(I)I"⟩
def RX8 : String := "EldestSays$Meek"
def TX8 : u_T := fun k => match k with
  | _ => ("", "", "", false)
def tyX8 : Nat → FieldType := fun k => match k with
  | _ => .int
abbrev wsX80 : List Cond := u_ws RX8 TX8 0
theorem nmX8 : ∀ a, a < 0 → ∀ b, b < 0 → a ≠ b → (TX8 a).2.1 ≠ (TX8 b).2.1 := by decide +kernel
theorem tyX8_ok : ∀ k, k < 0 → parseFieldDescriptor (TX8 k).2.2.1 = some (tyX8 k) := by decide +kernel
abbrev cX8_init : ByteArray := prog_10_method_1_code
def yX8_init : MethodName := ⟨RX8, "<init>", "()V"⟩
abbrev cX8_ask : ByteArray := prog_10_method_2_code
def yX8_ask : MethodName := ⟨RX8, "ask", "(III)I"⟩
abbrev cX8_tell : ByteArray := prog_10_method_3_code
def yX8_tell : MethodName := ⟨RX8, "tell", "(LEldestSays$Plans;I)V"⟩
def RX9 : String := "EldestSays$Plans"
def TX9 : u_T := fun k => match k with
  | 0 => ("EldestSays$Plans", "offers", "[[I", true)
  | 1 => ("EldestSays$Plans", "prices", "[[I", true)
  | 2 => ("EldestSays$Plans", "shares", "[[I", true)
  | 3 => ("EldestSays$Plans", "ayes", "[I", true)
  | 4 => ("EldestSays$Plans", "enders", "[I", true)
  | 5 => ("EldestSays$Plans", "buys", "[I", true)
  | 6 => ("EldestSays$Plans", "evening", "LEldestSays$Evening;", true)
  | 7 => ("EldestSays$Plans", "kinds", "[LEldestSays$Clever;", true)
  | 8 => ("EldestSays$Plans", "unitPrices", "[I", true)
  | 9 => ("EldestSays$Plans", "unitWeights", "[I", true)
  | 10 => ("EldestSays$Plans", "setPrices", "[I", true)
  | 11 => ("EldestSays$Plans", "setWeights", "[I", true)
  | 12 => ("EldestSays$Plans", "units", "I", false)
  | _ => ("EldestSays$Plans", "freeWeight", "I", false)
def tyX9 : Nat → FieldType := fun k => match k with
  | 0 => .array (.array .int)
  | 1 => .array (.array .int)
  | 2 => .array (.array .int)
  | 3 => .array .int
  | 4 => .array .int
  | 5 => .array .int
  | 6 => .object "EldestSays$Evening"
  | 7 => .array (.object "EldestSays$Clever")
  | 8 => .array .int
  | 9 => .array .int
  | 10 => .array .int
  | 11 => .array .int
  | 12 => .int
  | _ => .int
abbrev wsX90 : List Cond := u_ws RX9 TX9 14
theorem nmX9 : ∀ a, a < 14 → ∀ b, b < 14 → a ≠ b → (TX9 a).2.1 ≠ (TX9 b).2.1 := by decide +kernel
theorem tyX9_ok : ∀ k, k < 14 → parseFieldDescriptor (TX9 k).2.2.1 = some (tyX9 k) := by decide +kernel
abbrev cX9_init : ByteArray := prog_11_method_1_code
def yX9_init : MethodName := ⟨RX9, "<init>", "([LEldestSays$Clever;)V"⟩
abbrev cX9_solve : ByteArray := prog_11_method_2_code
def yX9_solve : MethodName := ⟨RX9, "solve", "(I)V"⟩
abbrev cX9_kindOf : ByteArray := prog_11_method_3_code
def yX9_kindOf : MethodName := ⟨RX9, "kindOf", "(I)LEldestSays$Clever;"⟩
abbrev cX9_askYounger : ByteArray := prog_11_method_4_code
def yX9_askYounger : MethodName := ⟨RX9, "askYounger", "(I)V"⟩
abbrev cX9_keepAll : ByteArray := prog_11_method_5_code
def yX9_keepAll : MethodName := ⟨RX9, "keepAll", "(I)V"⟩
abbrev cX9_vote : ByteArray := prog_11_method_6_code
def yX9_vote : MethodName := ⟨RX9, "vote", "(I)V"⟩
abbrev cX9_end : ByteArray := prog_11_method_7_code
def yX9_end : MethodName := ⟨RX9, "end", "(I)V"⟩
abbrev cX9_buyCheapest : ByteArray := prog_11_method_8_code
def yX9_buyCheapest : MethodName := ⟨RX9, "buyCheapest", "(I)V"⟩
abbrev cX9_manOfUnit : ByteArray := prog_11_method_9_code
def yX9_manOfUnit : MethodName := ⟨RX9, "manOfUnit", "(II)I"⟩
abbrev cX9_forgetUnits : ByteArray := prog_11_method_10_code
def yX9_forgetUnits : MethodName := ⟨RX9, "forgetUnits", "()V"⟩
abbrev cX9_addUnit : ByteArray := prog_11_method_11_code
def yX9_addUnit : MethodName := ⟨RX9, "addUnit", "(II)V"⟩
abbrev cX9_cheapestSet : ByteArray := prog_11_method_12_code
def yX9_cheapestSet : MethodName := ⟨RX9, "cheapestSet", "(I)I"⟩
abbrev cX9_listSets : ByteArray := prog_11_method_13_code
def yX9_listSets : MethodName := ⟨RX9, "listSets", "(I)I"⟩
abbrev cX9_canBuy : ByteArray := prog_11_method_14_code
def yX9_canBuy : MethodName := ⟨RX9, "canBuy", "(II)Z"⟩
abbrev cX9_shareFairly : ByteArray := prog_11_method_15_code
def yX9_shareFairly : MethodName := ⟨RX9, "shareFairly", "(I)V"⟩
abbrev cX9_spreadFromEldest : ByteArray := prog_11_method_16_code
def yX9_spreadFromEldest : MethodName := ⟨RX9, "spreadFromEldest", "(II)V"⟩
abbrev cX9_spreadFromYoungest : ByteArray := prog_11_method_17_code
def yX9_spreadFromYoungest : MethodName := ⟨RX9, "spreadFromYoungest", "(II)V"⟩
abbrev cX9_figureOf : ByteArray := prog_11_method_18_code
def yX9_figureOf : MethodName := ⟨RX9, "figureOf", "(I)I"⟩
abbrev cX9_give : ByteArray := prog_11_method_19_code
def yX9_give : MethodName := ⟨RX9, "give", "(III)V"⟩
def RX10 : String := "EldestSays$Spiteful"
def TX10 : u_T := fun k => match k with
  | _ => ("", "", "", false)
def tyX10 : Nat → FieldType := fun k => match k with
  | _ => .int
abbrev wsX100 : List Cond := u_ws RX10 TX10 0
theorem nmX10 : ∀ a, a < 0 → ∀ b, b < 0 → a ≠ b → (TX10 a).2.1 ≠ (TX10 b).2.1 := by decide +kernel
theorem tyX10_ok : ∀ k, k < 0 → parseFieldDescriptor (TX10 k).2.2.1 = some (tyX10 k) := by decide +kernel
abbrev cX10_init : ByteArray := prog_12_method_1_code
def yX10_init : MethodName := ⟨RX10, "<init>", "()V"⟩
abbrev cX10_ask : ByteArray := prog_12_method_2_code
def yX10_ask : MethodName := ⟨RX10, "ask", "(III)I"⟩
def RX11 : String := "EldestSays"
def TX11 : u_T := fun k => match k with
  | 0 => ("EldestSays", "plans", "LEldestSays$Plans;", true)
  | 1 => ("EldestSays", "trialPlans", "LEldestSays$Plans;", true)
  | 2 => ("EldestSays", "now", "LEldestSays$Evening;", true)
  | 3 => ("EldestSays", "trial", "LEldestSays$Evening;", true)
  | 4 => ("EldestSays", "kept", "LEldestSays$Evening;", true)
  | 5 => ("EldestSays", "letters", "LEldestSays$Letters;", true)
  | 6 => ("EldestSays", "crowd", "LEldestSays$Crowd;", true)
  | 7 => ("EldestSays", "order", "[I", true)
  | 8 => ("EldestSays", "told", "[I", true)
  | 9 => ("EldestSays", "refusals", "[I", true)
  | 10 => ("EldestSays", "chances", "[J", true)
  | 11 => ("EldestSays", "toldSize", "I", false)
  | 12 => ("EldestSays", "isKept", "Z", false)
  | _ => ("EldestSays", "isStale", "Z", false)
def tyX11 : Nat → FieldType := fun k => match k with
  | 0 => .object "EldestSays$Plans"
  | 1 => .object "EldestSays$Plans"
  | 2 => .object "EldestSays$Evening"
  | 3 => .object "EldestSays$Evening"
  | 4 => .object "EldestSays$Evening"
  | 5 => .object "EldestSays$Letters"
  | 6 => .object "EldestSays$Crowd"
  | 7 => .array .int
  | 8 => .array .int
  | 9 => .array .int
  | 10 => .array .long
  | 11 => .int
  | 12 => .boolean
  | _ => .boolean
abbrev wsX110 : List Cond := u_ws RX11 TX11 14
theorem nmX11 : ∀ a, a < 14 → ∀ b, b < 14 → a ≠ b → (TX11 a).2.1 ≠ (TX11 b).2.1 := by decide +kernel
theorem tyX11_ok : ∀ k, k < 14 → parseFieldDescriptor (TX11 k).2.2.1 = some (tyX11 k) := by decide +kernel
abbrev cX11_init : ByteArray := prog_1_method_1_code
def yX11_init : MethodName := ⟨RX11, "<init>", "()V"⟩
abbrev cX11_feed : ByteArray := prog_1_method_2_code
def yX11_feed : MethodName := ⟨RX11, "feed", "(I)I"⟩
abbrev cX11_beach : ByteArray := prog_1_method_3_code
def yX11_beach : MethodName := ⟨RX11, "beach", "()I"⟩
abbrev cX11_man : ByteArray := prog_1_method_4_code
def yX11_man : MethodName := ⟨RX11, "man", "(II)I"⟩
abbrev cX11_set : ByteArray := prog_1_method_5_code
def yX11_set : MethodName := ⟨RX11, "set", "(II)I"⟩
abbrev cX11_offered : ByteArray := prog_1_method_6_code
def yX11_offered : MethodName := ⟨RX11, "offered", "(II)I"⟩
abbrev cX11_price : ByteArray := prog_1_method_7_code
def yX11_price : MethodName := ⟨RX11, "price", "(II)I"⟩
abbrev cX11_votes : ByteArray := prog_1_method_8_code
def yX11_votes : MethodName := ⟨RX11, "votes", "(I)I"⟩
abbrev cX11_carries : ByteArray := prog_1_method_9_code
def yX11_carries : MethodName := ⟨RX11, "carries", "(I)I"⟩
abbrev cX11_ends : ByteArray := prog_1_method_10_code
def yX11_ends : MethodName := ⟨RX11, "ends", "(I)I"⟩
abbrev cX11_gets : ByteArray := prog_1_method_11_code
def yX11_gets : MethodName := ⟨RX11, "gets", "(II)I"⟩
abbrev cX11_bought : ByteArray := prog_1_method_12_code
def yX11_bought : MethodName := ⟨RX11, "bought", "(I)I"⟩
abbrev cX11_row : ByteArray := prog_1_method_13_code
def yX11_row : MethodName := ⟨RX11, "row", "(I)I"⟩
abbrev cX11_judge : ByteArray := prog_1_method_14_code
def yX11_judge : MethodName := ⟨RX11, "judge", "(I)I"⟩
abbrev cX11_goes : ByteArray := prog_1_method_15_code
def yX11_goes : MethodName := ⟨RX11, "goes", "(I)I"⟩
abbrev cX11_says : ByteArray := prog_1_method_16_code
def yX11_says : MethodName := ⟨RX11, "says", "()I"⟩
abbrev cX11_got : ByteArray := prog_1_method_17_code
def yX11_got : MethodName := ⟨RX11, "got", "(I)I"⟩
abbrev cX11_alike : ByteArray := prog_1_method_18_code
def yX11_alike : MethodName := ⟨RX11, "alike", "(IIIZ)I"⟩
abbrev cX11_fewest : ByteArray := prog_1_method_19_code
def yX11_fewest : MethodName := ⟨RX11, "fewest", "()I"⟩
abbrev cX11_byLaw : ByteArray := prog_1_method_20_code
def yX11_byLaw : MethodName := ⟨RX11, "byLaw", "(III)I"⟩
abbrev cX11_gains : ByteArray := prog_1_method_21_code
def yX11_gains : MethodName := ⟨RX11, "gains", "()I"⟩
abbrev cX11_swap : ByteArray := prog_1_method_22_code
def yX11_swap : MethodName := ⟨RX11, "swap", "(II)I"⟩
abbrev cX11_bestAge : ByteArray := prog_1_method_23_code
def yX11_bestAge : MethodName := ⟨RX11, "bestAge", "(I)I"⟩
abbrev cX11_league : ByteArray := prog_1_method_24_code
def yX11_league : MethodName := ⟨RX11, "league", "(I)I"⟩
abbrev cX11_shaken : ByteArray := prog_1_method_25_code
def yX11_shaken : MethodName := ⟨RX11, "shaken", "(I)J"⟩
abbrev cX11_seeds : ByteArray := prog_1_method_26_code
def yX11_seeds : MethodName := ⟨RX11, "seeds", "(III)I"⟩
abbrev cX11_clear : ByteArray := prog_1_method_27_code
def yX11_clear : MethodName := ⟨RX11, "clear", "()I"⟩
abbrev cX11_image : ByteArray := prog_1_method_28_code
def yX11_image : MethodName := ⟨RX11, "image", "()I"⟩
abbrev cX11_restore : ByteArray := prog_1_method_29_code
def yX11_restore : MethodName := ⟨RX11, "restore", "()I"⟩
abbrev cX11_count : ByteArray := prog_1_method_30_code
def yX11_count : MethodName := ⟨RX11, "count", "(I)I"⟩
abbrev cX11_countRefusals : ByteArray := prog_1_method_31_code
def yX11_countRefusals : MethodName := ⟨RX11, "countRefusals", "(I)I"⟩
abbrev cX11_refuse : ByteArray := prog_1_method_32_code
def yX11_refuse : MethodName := ⟨RX11, "refuse", "(I)I"⟩
abbrev cX11_solved : ByteArray := prog_1_method_33_code
def yX11_solved : MethodName := ⟨RX11, "solved", "()LEldestSays$Plans;"⟩
abbrev cX11_isRowRight : ByteArray := prog_1_method_34_code
def yX11_isRowRight : MethodName := ⟨RX11, "isRowRight", "()Z"⟩
abbrev cX11_firstOddVote : ByteArray := prog_1_method_35_code
def yX11_firstOddVote : MethodName := ⟨RX11, "firstOddVote", "(I)I"⟩
abbrev cX11_orderAsIs : ByteArray := prog_1_method_36_code
def yX11_orderAsIs : MethodName := ⟨RX11, "orderAsIs", "()V"⟩
abbrev cX11_orderWith : ByteArray := prog_1_method_37_code
def yX11_orderWith : MethodName := ⟨RX11, "orderWith", "(II)V"⟩
abbrev cX11_drawOrder : ByteArray := prog_1_method_38_code
def yX11_drawOrder : MethodName := ⟨RX11, "drawOrder", "(I)I"⟩
abbrev cX11_placeOf : ByteArray := prog_1_method_39_code
def yX11_placeOf : MethodName := ⟨RX11, "placeOf", "(I)I"⟩
abbrev cX11_seat : ByteArray := prog_1_method_40_code
def yX11_seat : MethodName := ⟨RX11, "seat", "()V"⟩
abbrev cX11_shakeVotes : ByteArray := prog_1_method_41_code
def yX11_shakeVotes : MethodName := ⟨RX11, "shakeVotes", "(I)J"⟩
abbrev cX11_addVoter : ByteArray := prog_1_method_42_code
def yX11_addVoter : MethodName := ⟨RX11, "addVoter", "(II)V"⟩
abbrev cX11_chanceCarried : ByteArray := prog_1_method_43_code
def yX11_chanceCarried : MethodName := ⟨RX11, "chanceCarried", "()J"⟩
abbrev cX11_commonDivisor : ByteArray := prog_1_method_44_code
def yX11_commonDivisor : MethodName := ⟨RX11, "commonDivisor", "(JJ)J"⟩
abbrev cX11_isEnough : ByteArray := prog_1_method_45_code
def yX11_isEnough : MethodName := ⟨RX11, "isEnough", "(III)Z"⟩
def RX12 : String := "EldestSaysModel"
def TX12 : u_T := fun k => match k with
  | 0 => ("EldestSaysModel", "refused", "[I", true)
  | 1 => ("EldestSaysModel", "kind", "[I", true)
  | 2 => ("EldestSaysModel", "figure", "[I", true)
  | 3 => ("EldestSaysModel", "weight", "[I", true)
  | 4 => ("EldestSaysModel", "got", "[I", true)
  | 5 => ("EldestSaysModel", "setting", "[I", true)
  | 6 => ("EldestSaysModel", "men", "I", false)
  | 7 => ("EldestSaysModel", "sayer", "I", false)
  | 8 => ("EldestSaysModel", "done", "I", false)
  | 9 => ("EldestSaysModel", "tape", "[I", true)
  | 10 => ("EldestSaysModel", "letter", "[I", true)
  | 11 => ("EldestSaysModel", "letterAt", "[I", true)
  | 12 => ("EldestSaysModel", "told", "[I", true)
  | 13 => ("EldestSaysModel", "taped", "I", false)
  | 14 => ("EldestSaysModel", "at", "I", false)
  | 15 => ("EldestSaysModel", "statements", "I", false)
  | 16 => ("EldestSaysModel", "kept", "[I", true)
  | 17 => ("EldestSaysModel", "hasImage", "Z", false)
  | 18 => ("EldestSaysModel", "isKeeping", "Z", false)
  | 19 => ("EldestSaysModel", "cursor", "I", false)
  | 20 => ("EldestSaysModel", "price", "[I", true)
  | 21 => ("EldestSaysModel", "offer", "[I", true)
  | 22 => ("EldestSaysModel", "gets", "[I", true)
  | 23 => ("EldestSaysModel", "yes", "[I", true)
  | 24 => ("EldestSaysModel", "buys", "[I", true)
  | 25 => ("EldestSaysModel", "ends", "[I", true)
  | 26 => ("EldestSaysModel", "carried", "[I", true)
  | 27 => ("EldestSaysModel", "row", "[I", true)
  | 28 => ("EldestSaysModel", "rowMany", "I", false)
  | 29 => ("EldestSaysModel", "keptRow", "[I", true)
  | 30 => ("EldestSaysModel", "likeGets", "[I", true)
  | 31 => ("EldestSaysModel", "likePrice", "[I", true)
  | _ => ("EldestSaysModel", "ahead", "[I", true)
def tyX12 : Nat → FieldType := fun k => match k with
  | 0 => .array .int
  | 1 => .array .int
  | 2 => .array .int
  | 3 => .array .int
  | 4 => .array .int
  | 5 => .array .int
  | 6 => .int
  | 7 => .int
  | 8 => .int
  | 9 => .array .int
  | 10 => .array .int
  | 11 => .array .int
  | 12 => .array .int
  | 13 => .int
  | 14 => .int
  | 15 => .int
  | 16 => .array .int
  | 17 => .boolean
  | 18 => .boolean
  | 19 => .int
  | 20 => .array .int
  | 21 => .array .int
  | 22 => .array .int
  | 23 => .array .int
  | 24 => .array .int
  | 25 => .array .int
  | 26 => .array .int
  | 27 => .array .int
  | 28 => .int
  | 29 => .array .int
  | 30 => .array .int
  | 31 => .array .int
  | _ => .array .int
abbrev wsX120 : List Cond := u_ws RX12 TX12 33
theorem nmX12 : ∀ a, a < 33 → ∀ b, b < 33 → a ≠ b → (TX12 a).2.1 ≠ (TX12 b).2.1 := by decide +kernel
theorem tyX12_ok : ∀ k, k < 33 → parseFieldDescriptor (TX12 k).2.2.1 = some (tyX12 k) := by decide +kernel
abbrev cX12_init : ByteArray := prog_14_method_1_code
def yX12_init : MethodName := ⟨RX12, "<init>", "()V"⟩
abbrev cX12_no : ByteArray := prog_14_method_2_code
def yX12_no : MethodName := ⟨RX12, "no", "(I)I"⟩
abbrev cX12_lower : ByteArray := prog_14_method_3_code
def yX12_lower : MethodName := ⟨RX12, "lower", "(I)I"⟩
abbrev cX12_lowest : ByteArray := prog_14_method_4_code
def yX12_lowest : MethodName := ⟨RX12, "lowest", "(I)J"⟩
abbrev cX12_isIn : ByteArray := prog_14_method_5_code
def yX12_isIn : MethodName := ⟨RX12, "isIn", "(III)Z"⟩
abbrev cX12_bound : ByteArray := prog_14_method_6_code
def yX12_bound : MethodName := ⟨RX12, "bound", "(III)I"⟩
abbrev cX12_isMan : ByteArray := prog_14_method_7_code
def yX12_isMan : MethodName := ⟨RX12, "isMan", "(I)Z"⟩
abbrev cX12_feed : ByteArray := prog_14_method_8_code
def yX12_feed : MethodName := ⟨RX12, "feed", "(I)I"⟩
abbrev cX12_next : ByteArray := prog_14_method_9_code
def yX12_next : MethodName := ⟨RX12, "next", "()I"⟩
abbrev cX12_reads : ByteArray := prog_14_method_10_code
def yX12_reads : MethodName := ⟨RX12, "reads", "(II)Z"⟩
abbrev cX12_statement : ByteArray := prog_14_method_11_code
def yX12_statement : MethodName := ⟨RX12, "statement", "()Z"⟩
abbrev cX12_comes : ByteArray := prog_14_method_12_code
def yX12_comes : MethodName := ⟨RX12, "comes", "(I)Z"⟩
abbrev cX12_beach : ByteArray := prog_14_method_13_code
def yX12_beach : MethodName := ⟨RX12, "beach", "()I"⟩
abbrev cX12_passes : ByteArray := prog_14_method_14_code
def yX12_passes : MethodName := ⟨RX12, "passes", "([I)V"⟩
abbrev cX12_passOne : ByteArray := prog_14_method_15_code
def yX12_passOne : MethodName := ⟨RX12, "passOne", "(I)I"⟩
abbrev cX12_passesAll : ByteArray := prog_14_method_16_code
def yX12_passesAll : MethodName := ⟨RX12, "passesAll", "(IZ)V"⟩
abbrev cX12_image : ByteArray := prog_14_method_17_code
def yX12_image : MethodName := ⟨RX12, "image", "()I"⟩
abbrev cX12_restore : ByteArray := prog_14_method_18_code
def yX12_restore : MethodName := ⟨RX12, "restore", "()I"⟩
abbrev cX12_man : ByteArray := prog_14_method_19_code
def yX12_man : MethodName := ⟨RX12, "man", "(II)I"⟩
abbrev cX12_set : ByteArray := prog_14_method_20_code
def yX12_set : MethodName := ⟨RX12, "set", "(II)I"⟩
abbrev cX12_isCarried : ByteArray := prog_14_method_21_code
def yX12_isCarried : MethodName := ⟨RX12, "isCarried", "(III)Z"⟩
abbrev cX12_weightOf : ByteArray := prog_14_method_22_code
def yX12_weightOf : MethodName := ⟨RX12, "weightOf", "(I)I"⟩
abbrev cX12_leftFrom : ByteArray := prog_14_method_23_code
def yX12_leftFrom : MethodName := ⟨RX12, "leftFrom", "(I)I"⟩
abbrev cX12_above : ByteArray := prog_14_method_24_code
def yX12_above : MethodName := ⟨RX12, "above", "(I)I"⟩
abbrev cX12_priceOf : ByteArray := prog_14_method_25_code
def yX12_priceOf : MethodName := ⟨RX12, "priceOf", "(II)I"⟩
abbrev cX12_costOf : ByteArray := prog_14_method_26_code
def yX12_costOf : MethodName := ⟨RX12, "costOf", "(II)I"⟩
abbrev cX12_unbought : ByteArray := prog_14_method_27_code
def yX12_unbought : MethodName := ⟨RX12, "unbought", "(I)I"⟩
abbrev cX12_isAhead : ByteArray := prog_14_method_28_code
def yX12_isAhead : MethodName := ⟨RX12, "isAhead", "(II)Z"⟩
abbrev cX12_buysBy : ByteArray := prog_14_method_29_code
def yX12_buysBy : MethodName := ⟨RX12, "buysBy", "(I)I"⟩
abbrev cX12_offersEach : ByteArray := prog_14_method_30_code
def yX12_offersEach : MethodName := ⟨RX12, "offersEach", "(III)V"⟩
abbrev cX12_offersFools : ByteArray := prog_14_method_31_code
def yX12_offersFools : MethodName := ⟨RX12, "offersFools", "(IZ)V"⟩
abbrev cX12_doesBuy : ByteArray := prog_14_method_32_code
def yX12_doesBuy : MethodName := ⟨RX12, "doesBuy", "(I)Z"⟩
abbrev cX12_findOffer : ByteArray := prog_14_method_33_code
def yX12_findOffer : MethodName := ⟨RX12, "findOffer", "(I)V"⟩
abbrev cX12_solves : ByteArray := prog_14_method_34_code
def yX12_solves : MethodName := ⟨RX12, "solves", "(I)V"⟩
abbrev cX12_solvesAll : ByteArray := prog_14_method_35_code
def yX12_solvesAll : MethodName := ⟨RX12, "solvesAll", "()V"⟩
abbrev cX12_areInOrder : ByteArray := prog_14_method_36_code
def yX12_areInOrder : MethodName := ⟨RX12, "areInOrder", "(II)Z"⟩
abbrev cX12_offered : ByteArray := prog_14_method_37_code
def yX12_offered : MethodName := ⟨RX12, "offered", "(II)I"⟩
abbrev cX12_price : ByteArray := prog_14_method_38_code
def yX12_price : MethodName := ⟨RX12, "price", "(II)I"⟩
abbrev cX12_votes : ByteArray := prog_14_method_39_code
def yX12_votes : MethodName := ⟨RX12, "votes", "(I)I"⟩
abbrev cX12_carries : ByteArray := prog_14_method_40_code
def yX12_carries : MethodName := ⟨RX12, "carries", "(I)I"⟩
abbrev cX12_ends : ByteArray := prog_14_method_41_code
def yX12_ends : MethodName := ⟨RX12, "ends", "(I)I"⟩
abbrev cX12_gets : ByteArray := prog_14_method_42_code
def yX12_gets : MethodName := ⟨RX12, "gets", "(II)I"⟩
abbrev cX12_bought : ByteArray := prog_14_method_43_code
def yX12_bought : MethodName := ⟨RX12, "bought", "(I)I"⟩
abbrev cX12_row : ByteArray := prog_14_method_44_code
def yX12_row : MethodName := ⟨RX12, "row", "(I)I"⟩
abbrev cX12_clear : ByteArray := prog_14_method_45_code
def yX12_clear : MethodName := ⟨RX12, "clear", "()I"⟩
abbrev cX12_isOver : ByteArray := prog_14_method_46_code
def yX12_isOver : MethodName := ⟨RX12, "isOver", "()Z"⟩
abbrev cX12_isOffer : ByteArray := prog_14_method_47_code
def yX12_isOffer : MethodName := ⟨RX12, "isOffer", "()Z"⟩
abbrev cX12_judge : ByteArray := prog_14_method_48_code
def yX12_judge : MethodName := ⟨RX12, "judge", "(I)I"⟩
abbrev cX12_decides : ByteArray := prog_14_method_49_code
def yX12_decides : MethodName := ⟨RX12, "decides", "(I)I"⟩
abbrev cX12_goes : ByteArray := prog_14_method_50_code
def yX12_goes : MethodName := ⟨RX12, "goes", "(I)I"⟩
abbrev cX12_says : ByteArray := prog_14_method_51_code
def yX12_says : MethodName := ⟨RX12, "says", "()I"⟩
abbrev cX12_got : ByteArray := prog_14_method_52_code
def yX12_got : MethodName := ⟨RX12, "got", "(I)I"⟩
abbrev cX12_enough : ByteArray := prog_14_method_53_code
def yX12_enough : MethodName := ⟨RX12, "enough", "(I)I"⟩
abbrev cX12_withPrice : ByteArray := prog_14_method_54_code
def yX12_withPrice : MethodName := ⟨RX12, "withPrice", "(III)I"⟩
abbrev cX12_likeSays : ByteArray := prog_14_method_55_code
def yX12_likeSays : MethodName := ⟨RX12, "likeSays", "(III)Z"⟩
abbrev cX12_likeTakes : ByteArray := prog_14_method_56_code
def yX12_likeTakes : MethodName := ⟨RX12, "likeTakes", "(IIII)V"⟩
abbrev cX12_alike : ByteArray := prog_14_method_57_code
def yX12_alike : MethodName := ⟨RX12, "alike", "(IIIZ)I"⟩
abbrev cX12_fewest : ByteArray := prog_14_method_58_code
def yX12_fewest : MethodName := ⟨RX12, "fewest", "()I"⟩
abbrev cX12_byLaw : ByteArray := prog_14_method_59_code
def yX12_byLaw : MethodName := ⟨RX12, "byLaw", "(III)I"⟩
abbrev cX12_gains : ByteArray := prog_14_method_60_code
def yX12_gains : MethodName := ⟨RX12, "gains", "()I"⟩
abbrev cX12_moves : ByteArray := prog_14_method_61_code
def yX12_moves : MethodName := ⟨RX12, "moves", "(II)V"⟩
abbrev cX12_swaps : ByteArray := prog_14_method_62_code
def yX12_swaps : MethodName := ⟨RX12, "swaps", "(II)V"⟩
abbrev cX12_swap : ByteArray := prog_14_method_63_code
def yX12_swap : MethodName := ⟨RX12, "swap", "(II)I"⟩
abbrev cX12_bestAge : ByteArray := prog_14_method_64_code
def yX12_bestAge : MethodName := ⟨RX12, "bestAge", "(I)I"⟩
abbrev cX12_isFree : ByteArray := prog_14_method_65_code
def yX12_isFree : MethodName := ⟨RX12, "isFree", "(I)Z"⟩
abbrev cX12_bits : ByteArray := prog_14_method_66_code
def yX12_bits : MethodName := ⟨RX12, "bits", "(I)I"⟩
abbrev cX12_league : ByteArray := prog_14_method_67_code
def yX12_league : MethodName := ⟨RX12, "league", "(I)I"⟩
abbrev cX12_divisor : ByteArray := prog_14_method_68_code
def yX12_divisor : MethodName := ⟨RX12, "divisor", "(JJ)J"⟩
abbrev cX12_shaken : ByteArray := prog_14_method_69_code
def yX12_shaken : MethodName := ⟨RX12, "shaken", "(I)J"⟩
abbrev cX12_seeds : ByteArray := prog_14_method_70_code
def yX12_seeds : MethodName := ⟨RX12, "seeds", "(III)I"⟩
abbrev cX12_count : ByteArray := prog_14_method_71_code
def yX12_count : MethodName := ⟨RX12, "count", "(I)I"⟩
def RJ6 : String := "java/lang/Integer"
def TJ6 : u_T := fun k => match k with
  | _ => ("", "", "", false)
def tyJ6 : Nat → FieldType := fun k => match k with
  | _ => .int
abbrev wsJ60 : List Cond := u_ws RJ6 TJ6 0
theorem nmJ6 : ∀ a, a < 0 → ∀ b, b < 0 → a ≠ b → (TJ6 a).2.1 ≠ (TJ6 b).2.1 := by decide +kernel
theorem tyJ6_ok : ∀ k, k < 0 → parseFieldDescriptor (TJ6 k).2.2.1 = some (tyJ6 k) := by decide +kernel
abbrev cJ6_bitCount_0f7a4 : ByteArray := prog_15_method_49_code
def yJ6_bitCount_0f7a4 : MethodName := ⟨RJ6, "bitCount", "(I)I"⟩
def RJ9 : String := "java/lang/Math"
def TJ9 : u_T := fun k => match k with
  | _ => ("", "", "", false)
def tyJ9 : Nat → FieldType := fun k => match k with
  | _ => .int
abbrev wsJ90 : List Cond := u_ws RJ9 TJ9 0
theorem nmJ9 : ∀ a, a < 0 → ∀ b, b < 0 → a ≠ b → (TJ9 a).2.1 ≠ (TJ9 b).2.1 := by decide +kernel
theorem tyJ9_ok : ∀ k, k < 0 → parseFieldDescriptor (TJ9 k).2.2.1 = some (tyJ9 k) := by decide +kernel
abbrev cJ9_max_7cf53 : ByteArray := prog_16_method_65_code
def yJ9_max_7cf53 : MethodName := ⟨RJ9, "max", "(II)I"⟩
abbrev cJ9_min_7cf53 : ByteArray := prog_16_method_69_code
def yJ9_min_7cf53 : MethodName := ⟨RJ9, "min", "(II)I"⟩
def RJ10 : String := "java/lang/System"
def TJ10 : u_T := fun k => match k with
  | _ => ("", "", "", false)
def tyJ10 : Nat → FieldType := fun k => match k with
  | _ => .int
abbrev wsJ100 : List Cond := u_ws RJ10 TJ10 0
theorem nmJ10 : ∀ a, a < 0 → ∀ b, b < 0 → a ≠ b → (TJ10 a).2.1 ≠ (TJ10 b).2.1 := by decide +kernel
theorem tyJ10_ok : ∀ k, k < 0 → parseFieldDescriptor (TJ10 k).2.2.1 = some (tyJ10 k) := by decide +kernel
def RJ7 : String := "java/util/Arrays"
def TJ7 : u_T := fun k => match k with
  | _ => ("", "", "", false)
def tyJ7 : Nat → FieldType := fun k => match k with
  | _ => .int
abbrev wsJ70 : List Cond := u_ws RJ7 TJ7 0
theorem nmJ7 : ∀ a, a < 0 → ∀ b, b < 0 → a ≠ b → (TJ7 a).2.1 ≠ (TJ7 b).2.1 := by decide +kernel
theorem tyJ7_ok : ∀ k, k < 0 → parseFieldDescriptor (TJ7 k).2.2.1 = some (tyJ7 k) := by decide +kernel
abbrev cJ7_fill_d0a16 : ByteArray := prog_18_method_101_code
def yJ7_fill_d0a16 : MethodName := ⟨RJ7, "fill", "([JJ)V"⟩
abbrev cJ7_fill_53178 : ByteArray := prog_18_method_103_code
def yJ7_fill_53178 : MethodName := ⟨RJ7, "fill", "([II)V"⟩
def RL : String := "EldestSaysLaw"
abbrev cL_law : ByteArray := code
def yL_law : MethodName := ⟨RL, "law", "([I)Z"⟩
