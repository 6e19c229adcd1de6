theorem ab_p {z : Int} (hz : sm z) (h : 0 ≤ iI z) : iI z = nI z.toNat := by
  rw [← iI_0, iI_le sm0 hz] at h
  rw [nI_iI, Int.toNat_of_nonneg h]
theorem ab_n {z : Int} (hz : sm z) (h : ¬ 0 ≤ iI z) : (0 : Int32) = nI z.toNat := by
  rw [← iI_0, iI_le sm0 hz] at h
  rw [show z.toNat = 0 by omega]
  rfl
/-- what a man is offered at the last level v -/
theorem OF_case {Q : Nat → Nat} {a y m v j : Nat} (h1 : a ≤ j) (h2 : j < a + y) (hst : ∀ u, u < v → cu Q a y u < m) :
    OF Q a y m v j = if 0 < Q j ∧ Q j < v then Q j else if Q j = v ∧ 0 < v ∧ cv Q a (j - a) v < m - cu Q a y (v - 1) then v else 0 := by
  unfold OF
  by_cases e1 : 0 < Q j ∧ Q j < v
  · rw [if_pos e1, if_pos ⟨h1, h2, e1.1, by omega, rk_all h1 h2 e1.1 (hst (Q j) e1.2)⟩]
  · rw [if_neg e1]
    by_cases e2 : Q j = v ∧ 0 < v
    · have hr : rk Q a j = cv Q a (j - a) v := by
        unfold rk cv
        rw [e2.1]
      by_cases e3 : cv Q a (j - a) v < m - cu Q a y (v - 1)
      · rw [if_pos ⟨h1, h2, by omega, by omega, by rw [hr, e2.1]; exact e3⟩, if_pos ⟨e2.1, e2.2, e3⟩, e2.1]
      · rw [if_neg (fun q => e3 (by have := q.2.2.2.2; rw [hr, e2.1] at this; exact this)), if_neg (fun q => e3 q.2.2)]
    · rw [if_neg (fun q => by
        by_cases e4 : Q j = v
        · exact e2 ⟨e4, by omega⟩
        · exact e1 ⟨q.2.2.1, by omega⟩), if_neg (fun q => e2 ⟨q.1, q.2.1⟩)]
theorem cv_at {Q : Nat → Nat} {a j v : Nat} (h : a ≤ j) : cv Q a (j + 1 - a) v = cv Q a (j - a) v + (if Q j = v then 1 else 0) := by
  rw [show j + 1 - a = (j - a) + 1 by omega, cv_suc, show a + (j - a) = j by omega]
theorem cu_pred {Q : Nat → Nat} {a y p : Nat} (h : 1 ≤ p) : cu Q a y p = cu Q a y (p - 1) + cv Q a y p := by
  obtain ⟨x, rfl⟩ : ∃ x, p = x + 1 := ⟨p - 1, by omega⟩
  rfl
theorem cu_le {Q : Nat → Nat} {a y : Nat} : ∀ {v : Nat}, cu Q a y v ≤ y
  | 0 => Nat.zero_le _
  | v + 1 => by
    have h1 := cu_sum (Q := Q) (a := a) (y := y) (v := v + 1)
    have h2 := cn_le (p := fun j => decide (Q j ≤ v + 1)) (a := a) (k := y)
    omega

set_option maxHeartbeats 4000000 in
set_option maxRecDepth 100000 in
/-- X12_above_z -/
theorem c_X12_above_z (l : Launch) (dC : Nat → ClassId) (dI : Nat → Nat → Nat) (aC : Nat → ClassId) (sz : Nat) (z : Int) (hz : sm z) : Met l yX12_above (wW yX12_above cX12_above 1 (some .int)) ({ frames := 0, cells := 0, slots := 0, locals := 0 } : Room) (va_Pc [.int (iI z)] (fun U => U.heap.size = sz ∧ va_P (dC, dI) classes [] U.heap ∧ va_K (dC, dI) classes (TY aC) U ∧ va_D (fun _ => True) [] ∧ NX U)) (va_Qi (fun (r : Int32) (_ : Unit) => r = nI z.toNat) (fun (_ : Unit) (t : State) => va_P (dC, dI) classes [] t.heap ∧ va_K (dC, dI) classes (TY aC) t ∧ va_D (va_A [] sz) []) (va_A [] sz)) 0 0 (va_A [] sz) := by
  refine Met.ofW (cc := cX12_above) (maxL := 1) (ret := (some .int)) (by decide) rfl ?_
  intro p e s m args below meth c s₁ B hml hv
  obtain ⟨rfl, hsz, hP, hK, hD0, hN⟩ := hv
  have hx := B.exec
  have hb := B.bytes
  have hr := B.returns
  have hts0 := atoms_spec (ws := (wW yX12_above cX12_above 1 (some .int))) B.pre
  have hts : ∀ w9 ∈ lw_G, w9.before ([.int (iI z)] : List Value).toArray s = true := fun w9 h9 => hts0 w9 (List.mem_cons_of_mem _ h9)
  have hown : s.vm.findClass RX12 = some m.cls := findClass_of_methodNamed B.named
  have hlocks := B.notSynchronized
  subst hsz
  have hD := hD0.self (sz := s.heap.size)
  generalize hAe : va_A [] s.heap.size = A at hD ⊢
  have hA : ∀ q : Nat, s.heap.size ≤ q → A q := fun q h => by rw [← hAe]; exact Or.inr h
  obtain ⟨H, hHe⟩ : ∃ H : Heap, H = s.heap := ⟨_, rfl⟩
  have hS : va_S A s.heap H [] := by rw [hHe]; exact va_S.rf
  have hP : va_P (dC, dI) classes [] H := by rw [hHe]; exact hP
  have hl := lv_entry ([.int (iI z)]) (n := 1) (Nat.le_of_ble_eq_true rfl)
  rw [lg_entry_eq]
  generalize (lg_sl ([.int (iI z)]) ++ List.replicate (1 - (lg_sl ([.int (iI z)])).length) Slot.unset).toArray = ls at hl ⊢
  have hl : lv_has ls 1 [(0, .int (iI z))] := hl
  rw [← hHe]
  refine lv_iload_n hx hb dX12_above_0 rfl (lv_at hl 0 rfl) ?_
  refine lv_if_ge (tgt := 8) hx hb dX12_above_1 (by decide) (fun c_1 => ?_) (fun c_1 => ?_)
  · refine lv_iload_n hx hb dX12_above_8 rfl (lv_at hl 0 rfl) ?_
    have hP9 := hP.sub (ws' := []) [] rfl
    have hD9 := hD.sub (ws' := []) [] (by decide) rfl
    refine W.widen (k := 0) (n := 0) (by omega) (by omega) ?_
    exact W.iret (v := iI z) hx hb hr (fun t ht hW => ⟨⟨(iI z), (), rfl, ab_p hz c_1, by rw [ht]; exact hP9, va_K.moved hW.alike hK, hD9⟩, hS.F ht⟩) hS.2.2 dX12_above_9
  · refine lv_iconst (v := 0) hx hb dX12_above_4 (by decide) ?_
    refine lv_goto (tgt := 9) hx hb dX12_above_5 (by decide) ?_
    have hP9 := hP.sub (ws' := []) [] rfl
    have hD9 := hD.sub (ws' := []) [] (by decide) rfl
    refine W.widen (k := 0) (n := 0) (by omega) (by omega) ?_
    exact W.iret (v := 0) hx hb hr (fun t ht hW => ⟨⟨0, (), rfl, ab_n hz c_1, by rw [ht]; exact hP9, va_K.moved hW.alike hK, hD9⟩, hS.F ht⟩) hS.2.2 dX12_above_9

set_option maxHeartbeats 4000000 in
set_option maxRecDepth 100000 in
/-- X12_enough -/
theorem c_X12_enough (l : Launch) (dC : Nat → ClassId) (dI : Nat → Nat → Nat) (aC : Nat → ClassId) (sz : Nat) (g0 : Nat) (m_refused : Nat) (m_kind : Nat) (m_figure : Nat) (m_weight : Nat) (m_got : Nat) (m_setting : Nat) (m_tape : Nat) (m_letter : Nat) (m_letterAt : Nat) (m_told : Nat) (m_kept : Nat) (m_price : Nat) (m_offer : Nat) (m_gets : Nat) (m_yes : Nat) (m_buys : Nat) (m_ends : Nat) (m_carried : Nat) (m_row : Nat) (m_keptRow : Nat) (m_likeGets : Nat) (m_likePrice : Nat) (m_ahead : Nat) (men : Int32) (msy : Int32) (mdn : Int32) (tp : Int32) (mat : Int32) (stm : Int32) (hi : Int32) (ki : Int32) (cu : Int32) (rm : Int32) (stf : Nat → Int32) (a : Nat) (ha : 1 ≤ a ∧ a ≤ 100) : Met l yX12_enough (wW yX12_enough cX12_enough 3 (some .int)) ({ frames := 1, cells := 0, slots := 0, locals := 22 } : Room) (va_Pc [.ref g0, .int (nI a)] (fun U => U.heap.size = sz ∧ va_P (dC, dI) classes [(g0, .inr (12, [.ref m_refused, .ref m_kind, .ref m_figure, .ref m_weight, .ref m_got, .ref m_setting, .int men, .int msy, .int mdn, .ref m_tape, .ref m_letter, .ref m_letterAt, .ref m_told, .int tp, .int mat, .int stm, .ref m_kept, .int hi, .int ki, .int cu, .ref m_price, .ref m_offer, .ref m_gets, .ref m_yes, .ref m_buys, .ref m_ends, .ref m_carried, .ref m_row, .int rm, .ref m_keptRow, .ref m_likeGets, .ref m_likePrice, .ref m_ahead])), (m_setting, .inl (aC 0, 5, .inl stf))] U.heap ∧ va_K (dC, dI) classes (TY aC) U ∧ va_D (fun _ => True) [(g0, .inr (12, [.ref m_refused, .ref m_kind, .ref m_figure, .ref m_weight, .ref m_got, .ref m_setting, .int men, .int msy, .int mdn, .ref m_tape, .ref m_letter, .ref m_letterAt, .ref m_told, .int tp, .int mat, .int stm, .ref m_kept, .int hi, .int ki, .int cu, .ref m_price, .ref m_offer, .ref m_gets, .ref m_yes, .ref m_buys, .ref m_ends, .ref m_carried, .ref m_row, .int rm, .ref m_keptRow, .ref m_likeGets, .ref m_likePrice, .ref m_ahead])), (m_setting, .inl (aC 0, 5, .inl stf))] ∧ NX U)) (va_Qi (fun (r : Int32) (_ : Unit) => r = nI (nd (stf 1) a)) (fun (_ : Unit) (t : State) => va_P (dC, dI) classes [(g0, .inr (12, [.ref m_refused, .ref m_kind, .ref m_figure, .ref m_weight, .ref m_got, .ref m_setting, .int men, .int msy, .int mdn, .ref m_tape, .ref m_letter, .ref m_letterAt, .ref m_told, .int tp, .int mat, .int stm, .ref m_kept, .int hi, .int ki, .int cu, .ref m_price, .ref m_offer, .ref m_gets, .ref m_yes, .ref m_buys, .ref m_ends, .ref m_carried, .ref m_row, .int rm, .ref m_keptRow, .ref m_likeGets, .ref m_likePrice, .ref m_ahead])), (m_setting, .inl (aC 0, 5, .inl stf))] t.heap ∧ va_K (dC, dI) classes (TY aC) t ∧ va_D (va_A [(g0, .inr (12, [.ref m_refused, .ref m_kind, .ref m_figure, .ref m_weight, .ref m_got, .ref m_setting, .int men, .int msy, .int mdn, .ref m_tape, .ref m_letter, .ref m_letterAt, .ref m_told, .int tp, .int mat, .int stm, .ref m_kept, .int hi, .int ki, .int cu, .ref m_price, .ref m_offer, .ref m_gets, .ref m_yes, .ref m_buys, .ref m_ends, .ref m_carried, .ref m_row, .int rm, .ref m_keptRow, .ref m_likeGets, .ref m_likePrice, .ref m_ahead])), (m_setting, .inl (aC 0, 5, .inl stf))] sz) [(g0, .inr (12, [.ref m_refused, .ref m_kind, .ref m_figure, .ref m_weight, .ref m_got, .ref m_setting, .int men, .int msy, .int mdn, .ref m_tape, .ref m_letter, .ref m_letterAt, .ref m_told, .int tp, .int mat, .int stm, .ref m_kept, .int hi, .int ki, .int cu, .ref m_price, .ref m_offer, .ref m_gets, .ref m_yes, .ref m_buys, .ref m_ends, .ref m_carried, .ref m_row, .int rm, .ref m_keptRow, .ref m_likeGets, .ref m_likePrice, .ref m_ahead])), (m_setting, .inl (aC 0, 5, .inl stf))]) (va_A [(g0, .inr (12, [.ref m_refused, .ref m_kind, .ref m_figure, .ref m_weight, .ref m_got, .ref m_setting, .int men, .int msy, .int mdn, .ref m_tape, .ref m_letter, .ref m_letterAt, .ref m_told, .int tp, .int mat, .int stm, .ref m_kept, .int hi, .int ki, .int cu, .ref m_price, .ref m_offer, .ref m_gets, .ref m_yes, .ref m_buys, .ref m_ends, .ref m_carried, .ref m_row, .int rm, .ref m_keptRow, .ref m_likeGets, .ref m_likePrice, .ref m_ahead])), (m_setting, .inl (aC 0, 5, .inl stf))] sz)) 0 0 (va_A [(g0, .inr (12, [.ref m_refused, .ref m_kind, .ref m_figure, .ref m_weight, .ref m_got, .ref m_setting, .int men, .int msy, .int mdn, .ref m_tape, .ref m_letter, .ref m_letterAt, .ref m_told, .int tp, .int mat, .int stm, .ref m_kept, .int hi, .int ki, .int cu, .ref m_price, .ref m_offer, .ref m_gets, .ref m_yes, .ref m_buys, .ref m_ends, .ref m_carried, .ref m_row, .int rm, .ref m_keptRow, .ref m_likeGets, .ref m_likePrice, .ref m_ahead])), (m_setting, .inl (aC 0, 5, .inl stf))] sz) := by
  refine Met.ofW (cc := cX12_enough) (maxL := 3) (ret := (some .int)) (by decide) rfl ?_
  intro p e s m args below meth c s₁ B hml hv
  obtain ⟨rfl, hsz, hP, hK, hD0, hN⟩ := hv
  have hx := B.exec
  have hb := B.bytes
  have hr := B.returns
  have hts0 := atoms_spec (ws := (wW yX12_enough cX12_enough 3 (some .int))) B.pre
  have hts : ∀ w9 ∈ lw_G, w9.before ([.ref g0, .int (nI a)] : List Value).toArray s = true := fun w9 h9 => hts0 w9 (List.mem_cons_of_mem _ h9)
  have hown : s.vm.findClass RX12 = some m.cls := findClass_of_methodNamed B.named
  have hlocks := B.notSynchronized
  subst hsz
  have hD := hD0.self (sz := s.heap.size)
  generalize hAe : va_A [(g0, .inr (12, [.ref m_refused, .ref m_kind, .ref m_figure, .ref m_weight, .ref m_got, .ref m_setting, .int men, .int msy, .int mdn, .ref m_tape, .ref m_letter, .ref m_letterAt, .ref m_told, .int tp, .int mat, .int stm, .ref m_kept, .int hi, .int ki, .int cu, .ref m_price, .ref m_offer, .ref m_gets, .ref m_yes, .ref m_buys, .ref m_ends, .ref m_carried, .ref m_row, .int rm, .ref m_keptRow, .ref m_likeGets, .ref m_likePrice, .ref m_ahead])), (m_setting, .inl (aC 0, 5, .inl stf))] s.heap.size = A at hD ⊢
  have hA : ∀ q : Nat, s.heap.size ≤ q → A q := fun q h => by rw [← hAe]; exact Or.inr h
  obtain ⟨H, hHe⟩ : ∃ H : Heap, H = s.heap := ⟨_, rfl⟩
  have hS : va_S A s.heap H [] := by rw [hHe]; exact va_S.rf
  have hP : va_P (dC, dI) classes [(g0, .inr (12, [.ref m_refused, .ref m_kind, .ref m_figure, .ref m_weight, .ref m_got, .ref m_setting, .int men, .int msy, .int mdn, .ref m_tape, .ref m_letter, .ref m_letterAt, .ref m_told, .int tp, .int mat, .int stm, .ref m_kept, .int hi, .int ki, .int cu, .ref m_price, .ref m_offer, .ref m_gets, .ref m_yes, .ref m_buys, .ref m_ends, .ref m_carried, .ref m_row, .int rm, .ref m_keptRow, .ref m_likeGets, .ref m_likePrice, .ref m_ahead])), (m_setting, .inl (aC 0, 5, .inl stf))] H := by rw [hHe]; exact hP
  have hl := lv_entry ([.ref g0, .int (nI a)]) (n := 3) (Nat.le_of_ble_eq_true rfl)
  rw [lg_entry_eq]
  generalize (lg_sl ([.ref g0, .int (nI a)]) ++ List.replicate (3 - (lg_sl ([.ref g0, .int (nI a)])).length) Slot.unset).toArray = ls at hl ⊢
  have hl : lv_has ls 3 [(0, .ref g0), (1, .int (nI a))] := hl
  rw [← hHe]
  refine lv_iconst (v := 0) hx hb dX12_enough_0 (by decide) ?_
  refine lv_istore_n (lv' := [(2, .int 0), (0, .ref g0), (1, .int (nI a))]) hx hb dX12_enough_1 rfl hl (by decide) rfl (fun ls hl => ?_)
  have lp_2 : ∀ (fu : Nat) (k : Nat) (hfu : 200 - k < fu) (hk : k ≤ nd (stf 1) a) (H : Heap) (locs : List Loc) (ls : Array Slot), va_P (dC, dI) classes [(g0, .inr (12, [.ref m_refused, .ref m_kind, .ref m_figure, .ref m_weight, .ref m_got, .ref m_setting, .int men, .int msy, .int mdn, .ref m_tape, .ref m_letter, .ref m_letterAt, .ref m_told, .int tp, .int mat, .int stm, .ref m_kept, .int hi, .int ki, .int cu, .ref m_price, .ref m_offer, .ref m_gets, .ref m_yes, .ref m_buys, .ref m_ends, .ref m_carried, .ref m_row, .int rm, .ref m_keptRow, .ref m_likeGets, .ref m_likePrice, .ref m_ahead])), (m_setting, .inl (aC 0, 5, .inl stf))] H → va_D A [(g0, .inr (12, [.ref m_refused, .ref m_kind, .ref m_figure, .ref m_weight, .ref m_got, .ref m_setting, .int men, .int msy, .int mdn, .ref m_tape, .ref m_letter, .ref m_letterAt, .ref m_told, .int tp, .int mat, .int stm, .ref m_kept, .int hi, .int ki, .int cu, .ref m_price, .ref m_offer, .ref m_gets, .ref m_yes, .ref m_buys, .ref m_ends, .ref m_carried, .ref m_row, .int rm, .ref m_keptRow, .ref m_likeGets, .ref m_likePrice, .ref m_ahead])), (m_setting, .inl (aC 0, 5, .inl stf))] → va_S A s.heap H locs → lv_has ls 3 [(0, .ref g0), (1, .int (nI a)), (2, .int (nI k))] → W p l e (headSpec (wW yX12_enough cX12_enough 3 (some .int)) ({ frames := 1, cells := 0, slots := 0, locals := 22 } : Room)).room s m ([.ref g0, .int (nI a)] : List Value).toArray below meth c H locs 0 0 (MQ below (va_Qi (fun (r : Int32) (_ : Unit) => r = nI (nd (stf 1) a)) (fun (_ : Unit) (t : State) => va_P (dC, dI) classes [(g0, .inr (12, [.ref m_refused, .ref m_kind, .ref m_figure, .ref m_weight, .ref m_got, .ref m_setting, .int men, .int msy, .int mdn, .ref m_tape, .ref m_letter, .ref m_letterAt, .ref m_told, .int tp, .int mat, .int stm, .ref m_kept, .int hi, .int ki, .int cu, .ref m_price, .ref m_offer, .ref m_gets, .ref m_yes, .ref m_buys, .ref m_ends, .ref m_carried, .ref m_row, .int rm, .ref m_keptRow, .ref m_likeGets, .ref m_likePrice, .ref m_ahead])), (m_setting, .inl (aC 0, 5, .inl stf))] t.heap ∧ va_K (dC, dI) classes (TY aC) t ∧ va_D A [(g0, .inr (12, [.ref m_refused, .ref m_kind, .ref m_figure, .ref m_weight, .ref m_got, .ref m_setting, .int men, .int msy, .int mdn, .ref m_tape, .ref m_letter, .ref m_letterAt, .ref m_told, .int tp, .int mat, .int stm, .ref m_kept, .int hi, .int ki, .int cu, .ref m_price, .ref m_offer, .ref m_gets, .ref m_yes, .ref m_buys, .ref m_ends, .ref m_carried, .ref m_row, .int rm, .ref m_keptRow, .ref m_likeGets, .ref m_likePrice, .ref m_ahead])), (m_setting, .inl (aC 0, 5, .inl stf))]) A) ([.ref g0, .int (nI a)] : List Value).toArray s 0 0 A) (F0 m 2 ls []) := by
    intro fu
    induction fu with
    | zero => intro k hfu; exact absurd hfu (Nat.not_lt_zero _)
    | succ fu ih_2 =>
      intro k hfu hk H locs ls hP hD hS hl
      refine lv_aload_n hx hb dX12_enough_2 rfl (lv_at hl 0 rfl) ?_
      refine va_get (D := (dC, dI)) (ci := 12) (v := .ref m_setting) (C := RX12) (T := TX12) (N := 33) hx hb hts inX12 hown hK hP 0 rfl rfl 5 (by decide) (hts _ (gw kw_722 rfl)) (fun _ h9 => h9) rfl dX12_enough_3 ?_
      refine lv_iconst (v := 1) hx hb dX12_enough_6 (by decide) ?_
      have h_1 : vp_in 1 5 := by unfold vp_in; decide
      refine va_iald hx hb hK hP 1 0 rfl rfl h_1 dX12_enough_7 ?_
      refine lv_topi (fun x_2 e_2 => ?_)
      have h9 : x_2 = (stf 1) := by rw [e_2]; rfl
      subst h9
      refine lv_iload_n hx hb dX12_enough_8 rfl (lv_at hl 2 rfl) ?_
      refine lv_iload_n hx hb dX12_enough_9 rfl (lv_at hl 1 rfl) ?_
      have hPc := hP.sub (ws' := []) [] rfl
      have hDc := hD.sub (ws' := []) [] (by decide) rfl
      have hFc := va_free (wc := []) hD hS hA [] rfl
      refine va_calli (va_runS (As := [.int (stf 1), .int (nI k), .int (nI a)]) (rest := []) ⟨hx, hb, hml, hown, hts⟩ (c_X12_isCarried l dC dI aC H.size (stf 1) k a (by have := nd_le (law := stf 1) ha.1; omega) (by omega)) ⟨(callB_of 3 hts (gG kw_933) rfl rfl rfl (hts _ (gw kw_13 rfl)) (hts _ (gw kw_931 rfl)) (by decide +kernel) ⟨Nat.le_of_ble_eq_true rfl, Nat.le_of_ble_eq_true rfl⟩), (hts _ (gw kw_932 rfl))⟩ ⟨fun a U g mk q => by obtain ⟨q0, q1, qP, qK, qD, qN⟩ := q; exact ⟨q0, q1, qP, va_K.moved (u := U) (U := U.calling g mk a) (Vm.Alike.refl U.vm) qK, qD, NX.same (u := U) (U := U.calling g mk a) rfl qN⟩, fun U hU hW => ⟨rfl, by rw [hU], by rw [hU]; exact hPc, va_K.moved hW.alike hK, hDc.weaken (fun _ _ _ _ => trivial), NX.warm hW hN⟩⟩ rfl rfl hl.1 rfl (lv_room (Nat.le_of_ble_eq_true rfl)) dX12_enough_10 ⟨Nat.le_of_ble_eq_true rfl, Nat.le_of_ble_eq_true rfl⟩) hS (fun q _ h => hFc q h) hFc (fun x_3 u t H1 locs ht hvm hw_3 hB hz1 hk1 hS => ?_)
      obtain ⟨hP1, hK1, hD1⟩ := hB
      rw [ht] at hP1
      clear hK1
      try dsimp only at hw_3
      obtain ⟨hP, hD⟩ := va_join (wr := [(g0, .inr (12, [.ref m_refused, .ref m_kind, .ref m_figure, .ref m_weight, .ref m_got, .ref m_setting, .int men, .int msy, .int mdn, .ref m_tape, .ref m_letter, .ref m_letterAt, .ref m_told, .int tp, .int mat, .int stm, .ref m_kept, .int hi, .int ki, .int cu, .ref m_price, .ref m_offer, .ref m_gets, .ref m_yes, .ref m_buys, .ref m_ends, .ref m_carried, .ref m_row, .int rm, .ref m_keptRow, .ref m_likeGets, .ref m_likePrice, .ref m_ahead])), (m_setting, .inl (aC 0, 5, .inl stf))]) (w1 := []) hP hD [] [0, 1] rfl rfl (by decide) (by decide) hk1 hFc hP1 hD1
      generalize H1 = H at hP hS ⊢
      have hP : va_P (dC, dI) classes [(g0, .inr (12, [.ref m_refused, .ref m_kind, .ref m_figure, .ref m_weight, .ref m_got, .ref m_setting, .int men, .int msy, .int mdn, .ref m_tape, .ref m_letter, .ref m_letterAt, .ref m_told, .int tp, .int mat, .int stm, .ref m_kept, .int hi, .int ki, .int cu, .ref m_price, .ref m_offer, .ref m_gets, .ref m_yes, .ref m_buys, .ref m_ends, .ref m_carried, .ref m_row, .int rm, .ref m_keptRow, .ref m_likeGets, .ref m_likePrice, .ref m_ahead])), (m_setting, .inl (aC 0, 5, .inl stf))] H := hP
      have hD : va_D A [(g0, .inr (12, [.ref m_refused, .ref m_kind, .ref m_figure, .ref m_weight, .ref m_got, .ref m_setting, .int men, .int msy, .int mdn, .ref m_tape, .ref m_letter, .ref m_letterAt, .ref m_told, .int tp, .int mat, .int stm, .ref m_kept, .int hi, .int ki, .int cu, .ref m_price, .ref m_offer, .ref m_gets, .ref m_yes, .ref m_buys, .ref m_ends, .ref m_carried, .ref m_row, .int rm, .ref m_keptRow, .ref m_likeGets, .ref m_likePrice, .ref m_ahead])), (m_setting, .inl (aC 0, 5, .inl stf))] := hD
      clear hPc hDc hFc hz1 hk1 hP1 hD1 ht hvm
      have hz_10 := hw_3
      refine lv_if_ne (tgt := 22) hx hb dX12_enough_13 (by decide) (fun c_4 => ?_) (fun c_4 => ?_)
      · have hge : nd (stf 1) a ≤ k := by
          rcases Nat.lt_or_ge k (nd (stf 1) a) with q | q
          · exact absurd (by rw [hz_10, if_neg (by omega)]) c_4
          · exact q
        refine lv_iload_n hx hb dX12_enough_22 rfl (lv_at hl 2 rfl) ?_
        have hP9 := hP.sub (ws' := [(g0, .inr (12, [.ref m_refused, .ref m_kind, .ref m_figure, .ref m_weight, .ref m_got, .ref m_setting, .int men, .int msy, .int mdn, .ref m_tape, .ref m_letter, .ref m_letterAt, .ref m_told, .int tp, .int mat, .int stm, .ref m_kept, .int hi, .int ki, .int cu, .ref m_price, .ref m_offer, .ref m_gets, .ref m_yes, .ref m_buys, .ref m_ends, .ref m_carried, .ref m_row, .int rm, .ref m_keptRow, .ref m_likeGets, .ref m_likePrice, .ref m_ahead])), (m_setting, .inl (aC 0, 5, .inl stf))]) [0, 1] rfl
        have hD9 := hD.sub (ws' := [(g0, .inr (12, [.ref m_refused, .ref m_kind, .ref m_figure, .ref m_weight, .ref m_got, .ref m_setting, .int men, .int msy, .int mdn, .ref m_tape, .ref m_letter, .ref m_letterAt, .ref m_told, .int tp, .int mat, .int stm, .ref m_kept, .int hi, .int ki, .int cu, .ref m_price, .ref m_offer, .ref m_gets, .ref m_yes, .ref m_buys, .ref m_ends, .ref m_carried, .ref m_row, .int rm, .ref m_keptRow, .ref m_likeGets, .ref m_likePrice, .ref m_ahead])), (m_setting, .inl (aC 0, 5, .inl stf))]) [0, 1] (by decide) rfl
        refine W.widen (k := 0) (n := 0) (by omega) (by omega) ?_
        exact W.iret (v := nI k) hx hb hr (fun t ht hW => ⟨⟨(nI k), (), rfl, by rw [show k = nd (stf 1) a by omega], by rw [ht]; exact hP9, va_K.moved hW.alike hK, hD9⟩, hS.F ht⟩) hS.2.2 dX12_enough_23
      · have hlt : ¬ nd (stf 1) a ≤ k := fun q => by rw [hz_10, if_pos q] at c_4; exact absurd c_4 (by decide)
        obtain ⟨x_5, e_5⟩ : ∃ y : Int32, y = (nI k) + 1 := ⟨_, rfl⟩
        refine lv_iinc (v := x_5) (lv' := [(2, .int x_5), (0, .ref g0), (1, .int (nI a))]) hx hb dX12_enough_16 hl (k := 2) rfl (by rw [e_5]; rfl) (by decide) rfl (fun ls hl => ?_)
        have h9 : x_5 = nI (k + 1) := by rw [e_5, nI_1]
        subst h9
        refine lv_goto (tgt := 2) hx hb dX12_enough_19 (by decide) ?_
        exact ih_2 (k + 1) (by have := nd_le (law := stf 1) ha.1; omega) (by omega) _ _ _ (hP.sub [0, 1] rfl) (hD.sub [0, 1] (by decide) rfl) hS (lv_sub hl [1, 2, 0] rfl)
  exact lp_2 ((200 - 0) + 1) 0 (Nat.lt_succ_self _) (Nat.zero_le _) _ _ _ (hP.sub [0, 1] rfl) (hD.sub [0, 1] (by decide) rfl) hS (lv_sub hl [1, 2, 0] rfl)

set_option maxHeartbeats 4000000 in
set_option maxRecDepth 100000 in
/-- X12_withPrice -/
theorem c_X12_withPrice (l : Launch) (dC : Nat → ClassId) (dI : Nat → Nat → Nat) (aC : Nat → ClassId) (sz : Nat) (g0 : Nat) (m_refused : Nat) (m_kind : Nat) (m_figure : Nat) (m_weight : Nat) (m_got : Nat) (m_setting : Nat) (m_tape : Nat) (m_letter : Nat) (m_letterAt : Nat) (m_told : Nat) (m_kept : Nat) (m_price : Nat) (m_offer : Nat) (m_gets : Nat) (m_yes : Nat) (m_buys : Nat) (m_ends : Nat) (m_carried : Nat) (m_row : Nat) (m_keptRow : Nat) (m_likeGets : Nat) (m_likePrice : Nat) (m_ahead : Nat) (men : Int32) (msy : Int32) (mdn : Int32) (tp : Int32) (mat : Int32) (stm : Int32) (hi : Int32) (ki : Int32) (cu : Int32) (rm : Int32) (Q : Nat → Nat) (pf : Nat → Int32) (i : Nat) (n : Nat) (v : Nat) (hn : i < n ∧ n ≤ 60) (hQ : ∀ j, i < j → j < n → pf j = nI (Q j) ∧ Q j ≤ 100) (hv : v ≤ 101) : Met l yX12_withPrice (wW yX12_withPrice cX12_withPrice 6 (some .int)) ({ frames := 0, cells := 0, slots := 0, locals := 0 } : Room) (va_Pc [.ref g0, .int (nI (i + 1)), .int (nI n), .int (nI v)] (fun U => U.heap.size = sz ∧ va_P (dC, dI) classes [(g0, .inr (12, [.ref m_refused, .ref m_kind, .ref m_figure, .ref m_weight, .ref m_got, .ref m_setting, .int men, .int msy, .int mdn, .ref m_tape, .ref m_letter, .ref m_letterAt, .ref m_told, .int tp, .int mat, .int stm, .ref m_kept, .int hi, .int ki, .int cu, .ref m_price, .ref m_offer, .ref m_gets, .ref m_yes, .ref m_buys, .ref m_ends, .ref m_carried, .ref m_row, .int rm, .ref m_keptRow, .ref m_likeGets, .ref m_likePrice, .ref m_ahead])), (m_likePrice, .inl (aC 0, 61, .inl pf))] U.heap ∧ va_K (dC, dI) classes (TY aC) U ∧ va_D (fun _ => True) [(g0, .inr (12, [.ref m_refused, .ref m_kind, .ref m_figure, .ref m_weight, .ref m_got, .ref m_setting, .int men, .int msy, .int mdn, .ref m_tape, .ref m_letter, .ref m_letterAt, .ref m_told, .int tp, .int mat, .int stm, .ref m_kept, .int hi, .int ki, .int cu, .ref m_price, .ref m_offer, .ref m_gets, .ref m_yes, .ref m_buys, .ref m_ends, .ref m_carried, .ref m_row, .int rm, .ref m_keptRow, .ref m_likeGets, .ref m_likePrice, .ref m_ahead])), (m_likePrice, .inl (aC 0, 61, .inl pf))] ∧ NX U)) (va_Qi (fun (r : Int32) (_ : Unit) => r = nI (cv Q (i + 1) (n - 1 - i) v)) (fun (_ : Unit) (t : State) => va_P (dC, dI) classes [(g0, .inr (12, [.ref m_refused, .ref m_kind, .ref m_figure, .ref m_weight, .ref m_got, .ref m_setting, .int men, .int msy, .int mdn, .ref m_tape, .ref m_letter, .ref m_letterAt, .ref m_told, .int tp, .int mat, .int stm, .ref m_kept, .int hi, .int ki, .int cu, .ref m_price, .ref m_offer, .ref m_gets, .ref m_yes, .ref m_buys, .ref m_ends, .ref m_carried, .ref m_row, .int rm, .ref m_keptRow, .ref m_likeGets, .ref m_likePrice, .ref m_ahead])), (m_likePrice, .inl (aC 0, 61, .inl pf))] t.heap ∧ va_K (dC, dI) classes (TY aC) t ∧ va_D (va_A [(g0, .inr (12, [.ref m_refused, .ref m_kind, .ref m_figure, .ref m_weight, .ref m_got, .ref m_setting, .int men, .int msy, .int mdn, .ref m_tape, .ref m_letter, .ref m_letterAt, .ref m_told, .int tp, .int mat, .int stm, .ref m_kept, .int hi, .int ki, .int cu, .ref m_price, .ref m_offer, .ref m_gets, .ref m_yes, .ref m_buys, .ref m_ends, .ref m_carried, .ref m_row, .int rm, .ref m_keptRow, .ref m_likeGets, .ref m_likePrice, .ref m_ahead])), (m_likePrice, .inl (aC 0, 61, .inl pf))] sz) [(g0, .inr (12, [.ref m_refused, .ref m_kind, .ref m_figure, .ref m_weight, .ref m_got, .ref m_setting, .int men, .int msy, .int mdn, .ref m_tape, .ref m_letter, .ref m_letterAt, .ref m_told, .int tp, .int mat, .int stm, .ref m_kept, .int hi, .int ki, .int cu, .ref m_price, .ref m_offer, .ref m_gets, .ref m_yes, .ref m_buys, .ref m_ends, .ref m_carried, .ref m_row, .int rm, .ref m_keptRow, .ref m_likeGets, .ref m_likePrice, .ref m_ahead])), (m_likePrice, .inl (aC 0, 61, .inl pf))]) (va_A [(g0, .inr (12, [.ref m_refused, .ref m_kind, .ref m_figure, .ref m_weight, .ref m_got, .ref m_setting, .int men, .int msy, .int mdn, .ref m_tape, .ref m_letter, .ref m_letterAt, .ref m_told, .int tp, .int mat, .int stm, .ref m_kept, .int hi, .int ki, .int cu, .ref m_price, .ref m_offer, .ref m_gets, .ref m_yes, .ref m_buys, .ref m_ends, .ref m_carried, .ref m_row, .int rm, .ref m_keptRow, .ref m_likeGets, .ref m_likePrice, .ref m_ahead])), (m_likePrice, .inl (aC 0, 61, .inl pf))] sz)) 0 0 (va_A [(g0, .inr (12, [.ref m_refused, .ref m_kind, .ref m_figure, .ref m_weight, .ref m_got, .ref m_setting, .int men, .int msy, .int mdn, .ref m_tape, .ref m_letter, .ref m_letterAt, .ref m_told, .int tp, .int mat, .int stm, .ref m_kept, .int hi, .int ki, .int cu, .ref m_price, .ref m_offer, .ref m_gets, .ref m_yes, .ref m_buys, .ref m_ends, .ref m_carried, .ref m_row, .int rm, .ref m_keptRow, .ref m_likeGets, .ref m_likePrice, .ref m_ahead])), (m_likePrice, .inl (aC 0, 61, .inl pf))] sz) := by
  refine Met.ofW (cc := cX12_withPrice) (maxL := 6) (ret := (some .int)) (by decide) rfl ?_
  intro p e s m args below meth c s₁ B hml hv
  obtain ⟨rfl, hsz, hP, hK, hD0, hN⟩ := hv
  have hx := B.exec
  have hb := B.bytes
  have hr := B.returns
  have hts0 := atoms_spec (ws := (wW yX12_withPrice cX12_withPrice 6 (some .int))) B.pre
  have hts : ∀ w9 ∈ lw_G, w9.before ([.ref g0, .int (nI (i + 1)), .int (nI n), .int (nI v)] : List Value).toArray s = true := fun w9 h9 => hts0 w9 (List.mem_cons_of_mem _ h9)
  have hown : s.vm.findClass RX12 = some m.cls := findClass_of_methodNamed B.named
  have hlocks := B.notSynchronized
  subst hsz
  have hD := hD0.self (sz := s.heap.size)
  generalize hAe : va_A [(g0, .inr (12, [.ref m_refused, .ref m_kind, .ref m_figure, .ref m_weight, .ref m_got, .ref m_setting, .int men, .int msy, .int mdn, .ref m_tape, .ref m_letter, .ref m_letterAt, .ref m_told, .int tp, .int mat, .int stm, .ref m_kept, .int hi, .int ki, .int cu, .ref m_price, .ref m_offer, .ref m_gets, .ref m_yes, .ref m_buys, .ref m_ends, .ref m_carried, .ref m_row, .int rm, .ref m_keptRow, .ref m_likeGets, .ref m_likePrice, .ref m_ahead])), (m_likePrice, .inl (aC 0, 61, .inl pf))] s.heap.size = A at hD ⊢
  have hA : ∀ q : Nat, s.heap.size ≤ q → A q := fun q h => by rw [← hAe]; exact Or.inr h
  obtain ⟨H, hHe⟩ : ∃ H : Heap, H = s.heap := ⟨_, rfl⟩
  have hS : va_S A s.heap H [] := by rw [hHe]; exact va_S.rf
  have hP : va_P (dC, dI) classes [(g0, .inr (12, [.ref m_refused, .ref m_kind, .ref m_figure, .ref m_weight, .ref m_got, .ref m_setting, .int men, .int msy, .int mdn, .ref m_tape, .ref m_letter, .ref m_letterAt, .ref m_told, .int tp, .int mat, .int stm, .ref m_kept, .int hi, .int ki, .int cu, .ref m_price, .ref m_offer, .ref m_gets, .ref m_yes, .ref m_buys, .ref m_ends, .ref m_carried, .ref m_row, .int rm, .ref m_keptRow, .ref m_likeGets, .ref m_likePrice, .ref m_ahead])), (m_likePrice, .inl (aC 0, 61, .inl pf))] H := by rw [hHe]; exact hP
  have hl := lv_entry ([.ref g0, .int (nI (i + 1)), .int (nI n), .int (nI v)]) (n := 6) (Nat.le_of_ble_eq_true rfl)
  rw [lg_entry_eq]
  generalize (lg_sl ([.ref g0, .int (nI (i + 1)), .int (nI n), .int (nI v)]) ++ List.replicate (6 - (lg_sl ([.ref g0, .int (nI (i + 1)), .int (nI n), .int (nI v)])).length) Slot.unset).toArray = ls at hl ⊢
  have hl : lv_has ls 6 [(0, .ref g0), (1, .int (nI (i + 1))), (2, .int (nI n)), (3, .int (nI v))] := hl
  rw [← hHe]
  refine lv_iconst (v := 0) hx hb dX12_withPrice_0 (by decide) ?_
  refine lv_topi (fun x_1 e_1 => ?_)
  have h9 : x_1 = nI (cv Q (i + 1) (i + 1 - (i + 1)) v) := by rw [e_1, Nat.sub_self]; rfl
  subst h9
  refine lv_istore (lv' := [(4, .int (nI (cv Q (i + 1) (i + 1 - (i + 1)) v))), (0, .ref g0), (1, .int (nI (i + 1))), (2, .int (nI n)), (3, .int (nI v))]) hx hb dX12_withPrice_1 hl (by decide) rfl (fun ls hl => ?_)
  refine lv_iload_n hx hb dX12_withPrice_3 rfl (lv_at hl 2 rfl) ?_
  refine lv_istore (lv' := [(5, .int (nI (i + 1))), (4, .int (nI (cv Q (i + 1) (i + 1 - (i + 1)) v))), (0, .ref g0), (1, .int (nI (i + 1))), (2, .int (nI n)), (3, .int (nI v))]) hx hb dX12_withPrice_4 hl (by decide) rfl (fun ls hl => ?_)
  have lp_6 : ∀ (fu : Nat) (j : Nat) (hfu : n - j < fu) (hj : i < j ∧ j ≤ n) (H : Heap) (locs : List Loc) (ls : Array Slot), va_P (dC, dI) classes [(g0, .inr (12, [.ref m_refused, .ref m_kind, .ref m_figure, .ref m_weight, .ref m_got, .ref m_setting, .int men, .int msy, .int mdn, .ref m_tape, .ref m_letter, .ref m_letterAt, .ref m_told, .int tp, .int mat, .int stm, .ref m_kept, .int hi, .int ki, .int cu, .ref m_price, .ref m_offer, .ref m_gets, .ref m_yes, .ref m_buys, .ref m_ends, .ref m_carried, .ref m_row, .int rm, .ref m_keptRow, .ref m_likeGets, .ref m_likePrice, .ref m_ahead])), (m_likePrice, .inl (aC 0, 61, .inl pf))] H → va_D A [(g0, .inr (12, [.ref m_refused, .ref m_kind, .ref m_figure, .ref m_weight, .ref m_got, .ref m_setting, .int men, .int msy, .int mdn, .ref m_tape, .ref m_letter, .ref m_letterAt, .ref m_told, .int tp, .int mat, .int stm, .ref m_kept, .int hi, .int ki, .int cu, .ref m_price, .ref m_offer, .ref m_gets, .ref m_yes, .ref m_buys, .ref m_ends, .ref m_carried, .ref m_row, .int rm, .ref m_keptRow, .ref m_likeGets, .ref m_likePrice, .ref m_ahead])), (m_likePrice, .inl (aC 0, 61, .inl pf))] → va_S A s.heap H locs → lv_has ls 6 [(0, .ref g0), (1, .int (nI (i + 1))), (2, .int (nI n)), (3, .int (nI v)), (4, .int (nI (cv Q (i + 1) (j - (i + 1)) v))), (5, .int (nI j))] → W p l e (headSpec (wW yX12_withPrice cX12_withPrice 6 (some .int)) ({ frames := 0, cells := 0, slots := 0, locals := 0 } : Room)).room s m ([.ref g0, .int (nI (i + 1)), .int (nI n), .int (nI v)] : List Value).toArray below meth c H locs 0 0 (MQ below (va_Qi (fun (r : Int32) (_ : Unit) => r = nI (cv Q (i + 1) (n - 1 - i) v)) (fun (_ : Unit) (t : State) => va_P (dC, dI) classes [(g0, .inr (12, [.ref m_refused, .ref m_kind, .ref m_figure, .ref m_weight, .ref m_got, .ref m_setting, .int men, .int msy, .int mdn, .ref m_tape, .ref m_letter, .ref m_letterAt, .ref m_told, .int tp, .int mat, .int stm, .ref m_kept, .int hi, .int ki, .int cu, .ref m_price, .ref m_offer, .ref m_gets, .ref m_yes, .ref m_buys, .ref m_ends, .ref m_carried, .ref m_row, .int rm, .ref m_keptRow, .ref m_likeGets, .ref m_likePrice, .ref m_ahead])), (m_likePrice, .inl (aC 0, 61, .inl pf))] t.heap ∧ va_K (dC, dI) classes (TY aC) t ∧ va_D A [(g0, .inr (12, [.ref m_refused, .ref m_kind, .ref m_figure, .ref m_weight, .ref m_got, .ref m_setting, .int men, .int msy, .int mdn, .ref m_tape, .ref m_letter, .ref m_letterAt, .ref m_told, .int tp, .int mat, .int stm, .ref m_kept, .int hi, .int ki, .int cu, .ref m_price, .ref m_offer, .ref m_gets, .ref m_yes, .ref m_buys, .ref m_ends, .ref m_carried, .ref m_row, .int rm, .ref m_keptRow, .ref m_likeGets, .ref m_likePrice, .ref m_ahead])), (m_likePrice, .inl (aC 0, 61, .inl pf))]) A) ([.ref g0, .int (nI (i + 1)), .int (nI n), .int (nI v)] : List Value).toArray s 0 0 A) (F0 m 6 ls []) := by
    intro fu
    induction fu with
    | zero => intro j hfu; exact absurd hfu (Nat.not_lt_zero _)
    | succ fu ih_6 =>
      intro j hfu hj H locs ls hP hD hS hl
      refine lv_iload hx hb dX12_withPrice_6 (lv_at hl 5 rfl) ?_
      refine lv_iload_n hx hb dX12_withPrice_8 rfl (lv_at hl 2 rfl) ?_
      refine lv_icmp_ge (tgt := 39) hx hb dX12_withPrice_9 (by decide) (fun c_2 => ?_) (fun c_2 => ?_)
      · have hjn : j = n := by
          rcases Nat.lt_or_ge j n with q | q
          · exact absurd c_2 (nI_ge q (by omega))
          · omega
        refine lv_iload hx hb dX12_withPrice_39 (lv_at hl 4 rfl) ?_
        have hP9 := hP.sub (ws' := [(g0, .inr (12, [.ref m_refused, .ref m_kind, .ref m_figure, .ref m_weight, .ref m_got, .ref m_setting, .int men, .int msy, .int mdn, .ref m_tape, .ref m_letter, .ref m_letterAt, .ref m_told, .int tp, .int mat, .int stm, .ref m_kept, .int hi, .int ki, .int cu, .ref m_price, .ref m_offer, .ref m_gets, .ref m_yes, .ref m_buys, .ref m_ends, .ref m_carried, .ref m_row, .int rm, .ref m_keptRow, .ref m_likeGets, .ref m_likePrice, .ref m_ahead])), (m_likePrice, .inl (aC 0, 61, .inl pf))]) [0, 1] rfl
        have hD9 := hD.sub (ws' := [(g0, .inr (12, [.ref m_refused, .ref m_kind, .ref m_figure, .ref m_weight, .ref m_got, .ref m_setting, .int men, .int msy, .int mdn, .ref m_tape, .ref m_letter, .ref m_letterAt, .ref m_told, .int tp, .int mat, .int stm, .ref m_kept, .int hi, .int ki, .int cu, .ref m_price, .ref m_offer, .ref m_gets, .ref m_yes, .ref m_buys, .ref m_ends, .ref m_carried, .ref m_row, .int rm, .ref m_keptRow, .ref m_likeGets, .ref m_likePrice, .ref m_ahead])), (m_likePrice, .inl (aC 0, 61, .inl pf))]) [0, 1] (by decide) rfl
        refine W.widen (k := 0) (n := 0) (by omega) (by omega) ?_
        exact W.iret (v := nI (cv Q (i + 1) (j - (i + 1)) v)) hx hb hr (fun t ht hW => ⟨⟨(nI (cv Q (i + 1) (j - (i + 1)) v)), (), rfl, by rw [hjn, show n - (i + 1) = n - 1 - i by omega], by rw [ht]; exact hP9, va_K.moved hW.alike hK, hD9⟩, hS.F ht⟩) hS.2.2 dX12_withPrice_41
      · have hlt : j < n := by
          rcases Nat.lt_or_ge j n with q | q
          · exact q
          · exact absurd (nI_le q (by omega)) c_2
        obtain ⟨hq1, hq2⟩ := hQ j hj.1 hlt
        refine lv_iload hx hb dX12_withPrice_12 (lv_at hl 4 rfl) ?_
        refine lv_aload_n hx hb dX12_withPrice_14 rfl (lv_at hl 0 rfl) ?_
        refine va_get (D := (dC, dI)) (ci := 12) (v := .ref m_likePrice) (C := RX12) (T := TX12) (N := 33) hx hb hts inX12 hown hK hP 0 rfl rfl 31 (by decide) (hts _ (gw kw_748 rfl)) (fun _ h9 => h9) rfl dX12_withPrice_15 ?_
        refine lv_iload hx hb dX12_withPrice_18 (lv_at hl 5 rfl) ?_
        have h_3 : vp_in (nI j) 61 := vp_in_nI (by omega) (by omega)
        refine va_iald hx hb hK hP 1 0 rfl rfl h_3 dX12_withPrice_20 ?_
        refine lv_topi (fun x_4 e_4 => ?_)
        have h9 : x_4 = nI (Q j) := by rw [e_4, nI_clamp (by omega)]; exact hq1
        subst h9
        refine lv_iload_n hx hb dX12_withPrice_21 rfl (lv_at hl 3 rfl) ?_
        refine lv_icmp_ne (tgt := 29) hx hb dX12_withPrice_22 (by decide) (fun c_5 => ?_) (fun c_5 => ?_)
        · refine lv_iconst (v := 0) hx hb dX12_withPrice_29 (by decide) ?_
          refine lv_iadd hx hb dX12_withPrice_30 ?_
          refine lv_topi (fun x_6 e_6 => ?_)
          refine lv_istore (lv' := [(4, .int x_6), (0, .ref g0), (1, .int (nI (i + 1))), (2, .int (nI n)), (3, .int (nI v)), (5, .int (nI j))]) hx hb dX12_withPrice_31 hl (by decide) rfl (fun ls hl => ?_)
          have hqv : ¬ Q j = v := fun q => c_5 (by rw [q])
          have h9 : x_6 = nI (cv Q (i + 1) (j + 1 - (i + 1)) v) := by rw [e_6, cv_at (by omega), if_neg hqv]; exact nI_add _ 0
          subst h9
          obtain ⟨x_7, e_7⟩ : ∃ y : Int32, y = (nI j) + 1 := ⟨_, rfl⟩
          refine lv_iinc (v := x_7) (lv' := [(5, .int x_7), (4, .int (nI (cv Q (i + 1) (j + 1 - (i + 1)) v))), (0, .ref g0), (1, .int (nI (i + 1))), (2, .int (nI n)), (3, .int (nI v))]) hx hb dX12_withPrice_33 hl (k := 5) rfl (by rw [e_7]; rfl) (by decide) rfl (fun ls hl => ?_)
          have h9 : x_7 = nI (j + 1) := by rw [e_7, nI_1]
          subst h9
          refine lv_goto (tgt := 6) hx hb dX12_withPrice_36 (by decide) ?_
          exact ih_6 (j + 1) (ms_lt hlt hfu) (by omega) _ _ _ (hP.sub [0, 1] rfl) (hD.sub [0, 1] (by decide) rfl) hS (lv_sub hl [2, 3, 4, 5, 1, 0] rfl)
        · refine lv_iconst (v := 1) hx hb dX12_withPrice_25 (by decide) ?_
          refine lv_goto (tgt := 30) hx hb dX12_withPrice_26 (by decide) ?_
          refine lv_iadd hx hb dX12_withPrice_30 ?_
          refine lv_topi (fun x_8 e_8 => ?_)
          refine lv_istore (lv' := [(4, .int x_8), (0, .ref g0), (1, .int (nI (i + 1))), (2, .int (nI n)), (3, .int (nI v)), (5, .int (nI j))]) hx hb dX12_withPrice_31 hl (by decide) rfl (fun ls hl => ?_)
          have hqv : Q j = v := (nI_eq (by omega) (by omega)).mp c_5
          have h9 : x_8 = nI (cv Q (i + 1) (j + 1 - (i + 1)) v) := by rw [e_8, cv_at (by omega), if_pos hqv]; exact nI_add _ 1
          subst h9
          obtain ⟨x_9, e_9⟩ : ∃ y : Int32, y = (nI j) + 1 := ⟨_, rfl⟩
          refine lv_iinc (v := x_9) (lv' := [(5, .int x_9), (4, .int (nI (cv Q (i + 1) (j + 1 - (i + 1)) v))), (0, .ref g0), (1, .int (nI (i + 1))), (2, .int (nI n)), (3, .int (nI v))]) hx hb dX12_withPrice_33 hl (k := 5) rfl (by rw [e_9]; rfl) (by decide) rfl (fun ls hl => ?_)
          have h9 : x_9 = nI (j + 1) := by rw [e_9, nI_1]
          subst h9
          refine lv_goto (tgt := 6) hx hb dX12_withPrice_36 (by decide) ?_
          exact ih_6 (j + 1) (ms_lt hlt hfu) (by omega) _ _ _ (hP.sub [0, 1] rfl) (hD.sub [0, 1] (by decide) rfl) hS (lv_sub hl [2, 3, 4, 5, 1, 0] rfl)
  exact lp_6 ((n - (i + 1)) + 1) (i + 1) (Nat.lt_succ_self _) (by omega) _ _ _ (hP.sub [0, 1] rfl) (hD.sub [0, 1] (by decide) rfl) hS (lv_sub hl [2, 3, 4, 5, 1, 0] rfl)
