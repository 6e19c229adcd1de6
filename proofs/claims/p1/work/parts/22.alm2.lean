set_option maxHeartbeats 4000000 in
set_option maxRecDepth 100000 in
/-- X12_likeTakes -/
theorem c_X12_likeTakes (l : Launch) (dC : Nat → ClassId) (dI : Nat → Nat → Nat) (aC : Nat → ClassId) (sz : Nat) (g0 : Nat) (m_refused : Nat) (m_kind : Nat) (m_figure : Nat) (m_weight : Nat) (m_got : Nat) (m_setting : Nat) (m_tape : Nat) (m_letter : Nat) (m_letterAt : Nat) (m_told : Nat) (m_kept : Nat) (m_price : Nat) (m_offer : Nat) (m_gets : Nat) (m_yes : Nat) (m_buys : Nat) (m_ends : Nat) (m_carried : Nat) (m_row : Nat) (m_keptRow : Nat) (m_likeGets : Nat) (m_likePrice : Nat) (m_ahead : Nat) (men : Int32) (msy : Int32) (mdn : Int32) (tp : Int32) (mat : Int32) (stm : Int32) (hi : Int32) (ki : Int32) (crs : Int32) (rm : Int32) (stf : Nat → Int32) (gf : Nat → Int32) (pf : Nat → Int32) (Q : Nat → Nat) (i : Nat) (n : Nat) (v : Nat) (mq : Nat) (hn : i < n ∧ n ≤ 60) (hQ : ∀ j, i < j → j < n → pf j = nI (Q j) ∧ Q j ≤ 100) (hv : v ≤ 100) (hm : mq ≤ 100) (hst : ∀ u, u < v → cu Q (i + 1) (n - 1 - i) u < mq) (hf : stf 3 = 0) : Met l yX12_likeTakes (wW yX12_likeTakes cX12_likeTakes 9 (none : Option FieldType)) ({ frames := 1, cells := 0, slots := 0, locals := 25 } : Room) (va_Pc [.ref g0, .int (nI i), .int (nI n), .int (nI v), .int (nI mq)] (fun U => U.heap.size = sz ∧ va_P (dC, dI) classes [(g0, .inr (12, [.ref m_refused, .ref m_kind, .ref m_figure, .ref m_weight, .ref m_got, .ref m_setting, .int men, .int msy, .int mdn, .ref m_tape, .ref m_letter, .ref m_letterAt, .ref m_told, .int tp, .int mat, .int stm, .ref m_kept, .int hi, .int ki, .int crs, .ref m_price, .ref m_offer, .ref m_gets, .ref m_yes, .ref m_buys, .ref m_ends, .ref m_carried, .ref m_row, .int rm, .ref m_keptRow, .ref m_likeGets, .ref m_likePrice, .ref m_ahead])), (m_setting, .inl (aC 0, 5, .inl stf)), (m_likeGets, .inl (aC 0, 61, .inl gf)), (m_likePrice, .inl (aC 0, 61, .inl pf))] U.heap ∧ va_K (dC, dI) classes (TY aC) U ∧ va_D (fun _ => True) [(g0, .inr (12, [.ref m_refused, .ref m_kind, .ref m_figure, .ref m_weight, .ref m_got, .ref m_setting, .int men, .int msy, .int mdn, .ref m_tape, .ref m_letter, .ref m_letterAt, .ref m_told, .int tp, .int mat, .int stm, .ref m_kept, .int hi, .int ki, .int crs, .ref m_price, .ref m_offer, .ref m_gets, .ref m_yes, .ref m_buys, .ref m_ends, .ref m_carried, .ref m_row, .int rm, .ref m_keptRow, .ref m_likeGets, .ref m_likePrice, .ref m_ahead])), (m_setting, .inl (aC 0, 5, .inl stf)), (m_likeGets, .inl (aC 0, 61, .inl gf)), (m_likePrice, .inl (aC 0, 61, .inl pf))] ∧ NX U)) (va_Qv (fun (gg : Nat → Int32) => ∀ q, i < q → q < n → gg q = nI (OF Q (i + 1) (n - 1 - i) mq v q)) (fun (gg : Nat → Int32) (t : State) => va_P (dC, dI) classes [(g0, .inr (12, [.ref m_refused, .ref m_kind, .ref m_figure, .ref m_weight, .ref m_got, .ref m_setting, .int men, .int msy, .int mdn, .ref m_tape, .ref m_letter, .ref m_letterAt, .ref m_told, .int tp, .int mat, .int stm, .ref m_kept, .int hi, .int ki, .int crs, .ref m_price, .ref m_offer, .ref m_gets, .ref m_yes, .ref m_buys, .ref m_ends, .ref m_carried, .ref m_row, .int rm, .ref m_keptRow, .ref m_likeGets, .ref m_likePrice, .ref m_ahead])), (m_setting, .inl (aC 0, 5, .inl stf)), (m_likeGets, .inl (aC 0, 61, .inl gg)), (m_likePrice, .inl (aC 0, 61, .inl pf))] t.heap ∧ va_K (dC, dI) classes (TY aC) t ∧ va_D (va_A [(g0, .inr (12, [.ref m_refused, .ref m_kind, .ref m_figure, .ref m_weight, .ref m_got, .ref m_setting, .int men, .int msy, .int mdn, .ref m_tape, .ref m_letter, .ref m_letterAt, .ref m_told, .int tp, .int mat, .int stm, .ref m_kept, .int hi, .int ki, .int crs, .ref m_price, .ref m_offer, .ref m_gets, .ref m_yes, .ref m_buys, .ref m_ends, .ref m_carried, .ref m_row, .int rm, .ref m_keptRow, .ref m_likeGets, .ref m_likePrice, .ref m_ahead])), (m_setting, .inl (aC 0, 5, .inl stf)), (m_likeGets, .inl (aC 0, 61, .inl gf)), (m_likePrice, .inl (aC 0, 61, .inl pf))] sz) [(g0, .inr (12, [.ref m_refused, .ref m_kind, .ref m_figure, .ref m_weight, .ref m_got, .ref m_setting, .int men, .int msy, .int mdn, .ref m_tape, .ref m_letter, .ref m_letterAt, .ref m_told, .int tp, .int mat, .int stm, .ref m_kept, .int hi, .int ki, .int crs, .ref m_price, .ref m_offer, .ref m_gets, .ref m_yes, .ref m_buys, .ref m_ends, .ref m_carried, .ref m_row, .int rm, .ref m_keptRow, .ref m_likeGets, .ref m_likePrice, .ref m_ahead])), (m_setting, .inl (aC 0, 5, .inl stf)), (m_likeGets, .inl (aC 0, 61, .inl gg)), (m_likePrice, .inl (aC 0, 61, .inl pf))]) (va_A [(g0, .inr (12, [.ref m_refused, .ref m_kind, .ref m_figure, .ref m_weight, .ref m_got, .ref m_setting, .int men, .int msy, .int mdn, .ref m_tape, .ref m_letter, .ref m_letterAt, .ref m_told, .int tp, .int mat, .int stm, .ref m_kept, .int hi, .int ki, .int crs, .ref m_price, .ref m_offer, .ref m_gets, .ref m_yes, .ref m_buys, .ref m_ends, .ref m_carried, .ref m_row, .int rm, .ref m_keptRow, .ref m_likeGets, .ref m_likePrice, .ref m_ahead])), (m_setting, .inl (aC 0, 5, .inl stf)), (m_likeGets, .inl (aC 0, 61, .inl gf)), (m_likePrice, .inl (aC 0, 61, .inl pf))] sz)) 0 0 (va_A [(g0, .inr (12, [.ref m_refused, .ref m_kind, .ref m_figure, .ref m_weight, .ref m_got, .ref m_setting, .int men, .int msy, .int mdn, .ref m_tape, .ref m_letter, .ref m_letterAt, .ref m_told, .int tp, .int mat, .int stm, .ref m_kept, .int hi, .int ki, .int crs, .ref m_price, .ref m_offer, .ref m_gets, .ref m_yes, .ref m_buys, .ref m_ends, .ref m_carried, .ref m_row, .int rm, .ref m_keptRow, .ref m_likeGets, .ref m_likePrice, .ref m_ahead])), (m_setting, .inl (aC 0, 5, .inl stf)), (m_likeGets, .inl (aC 0, 61, .inl gf)), (m_likePrice, .inl (aC 0, 61, .inl pf))] sz) := by
  refine Met.ofW (cc := cX12_likeTakes) (maxL := 9) (ret := (none : Option FieldType)) (by decide) rfl ?_
  intro p e s m args below meth c s₁ B hml hv
  obtain ⟨rfl, hsz, hP, hK, hD0, hN⟩ := hv
  have hx := B.exec
  have hb := B.bytes
  have hr := B.returns
  have hts0 := atoms_spec (ws := (wW yX12_likeTakes cX12_likeTakes 9 (none : Option FieldType))) B.pre
  have hts : ∀ w9 ∈ lw_G, w9.before ([.ref g0, .int (nI i), .int (nI n), .int (nI v), .int (nI mq)] : List Value).toArray s = true := fun w9 h9 => hts0 w9 (List.mem_cons_of_mem _ h9)
  have hown : s.vm.findClass RX12 = some m.cls := findClass_of_methodNamed B.named
  have hlocks := B.notSynchronized
  subst hsz
  have hD := hD0.self (sz := s.heap.size)
  generalize hAe : va_A [(g0, .inr (12, [.ref m_refused, .ref m_kind, .ref m_figure, .ref m_weight, .ref m_got, .ref m_setting, .int men, .int msy, .int mdn, .ref m_tape, .ref m_letter, .ref m_letterAt, .ref m_told, .int tp, .int mat, .int stm, .ref m_kept, .int hi, .int ki, .int crs, .ref m_price, .ref m_offer, .ref m_gets, .ref m_yes, .ref m_buys, .ref m_ends, .ref m_carried, .ref m_row, .int rm, .ref m_keptRow, .ref m_likeGets, .ref m_likePrice, .ref m_ahead])), (m_setting, .inl (aC 0, 5, .inl stf)), (m_likeGets, .inl (aC 0, 61, .inl gf)), (m_likePrice, .inl (aC 0, 61, .inl pf))] s.heap.size = A at hD ⊢
  have hA : ∀ q : Nat, s.heap.size ≤ q → A q := fun q h => by rw [← hAe]; exact Or.inr h
  obtain ⟨H, hHe⟩ : ∃ H : Heap, H = s.heap := ⟨_, rfl⟩
  have hS : va_S A s.heap H [] := by rw [hHe]; exact va_S.rf
  have hP : va_P (dC, dI) classes [(g0, .inr (12, [.ref m_refused, .ref m_kind, .ref m_figure, .ref m_weight, .ref m_got, .ref m_setting, .int men, .int msy, .int mdn, .ref m_tape, .ref m_letter, .ref m_letterAt, .ref m_told, .int tp, .int mat, .int stm, .ref m_kept, .int hi, .int ki, .int crs, .ref m_price, .ref m_offer, .ref m_gets, .ref m_yes, .ref m_buys, .ref m_ends, .ref m_carried, .ref m_row, .int rm, .ref m_keptRow, .ref m_likeGets, .ref m_likePrice, .ref m_ahead])), (m_setting, .inl (aC 0, 5, .inl stf)), (m_likeGets, .inl (aC 0, 61, .inl gf)), (m_likePrice, .inl (aC 0, 61, .inl pf))] H := by rw [hHe]; exact hP
  have hl := lv_entry ([.ref g0, .int (nI i), .int (nI n), .int (nI v), .int (nI mq)]) (n := 9) (Nat.le_of_ble_eq_true rfl)
  rw [lg_entry_eq]
  generalize (lg_sl ([.ref g0, .int (nI i), .int (nI n), .int (nI v), .int (nI mq)]) ++ List.replicate (9 - (lg_sl ([.ref g0, .int (nI i), .int (nI n), .int (nI v), .int (nI mq)])).length) Slot.unset).toArray = ls at hl ⊢
  have hl : lv_has ls 9 [(0, .ref g0), (1, .int (nI i)), (2, .int (nI n)), (3, .int (nI v)), (4, .int (nI mq))] := hl
  rw [← hHe]
  refine lv_iload hx hb dX12_likeTakes_0 (lv_at hl 4 rfl) ?_
  refine lv_topi (fun x_1 e_1 => ?_)
  have h9 : x_1 = iI ((mq : Int) - cu Q (i + 1) (n - 1 - i) (1 - 1)) := by rw [e_1, nI_iI]; exact congrArg iI (show (mq : Int) = mq - ((0 : Nat) : Int) by omega)
  subst h9
  refine lv_istore (lv' := [(5, .int (iI ((mq : Int) - cu Q (i + 1) (n - 1 - i) (1 - 1)))), (0, .ref g0), (1, .int (nI i)), (2, .int (nI n)), (3, .int (nI v)), (4, .int (nI mq))]) hx hb dX12_likeTakes_2 hl (by decide) rfl (fun ls hl => ?_)
  refine lv_iconst (v := 1) hx hb dX12_likeTakes_4 (by decide) ?_
  refine lv_istore (lv' := [(6, .int 1), (5, .int (iI ((mq : Int) - cu Q (i + 1) (n - 1 - i) (1 - 1)))), (0, .ref g0), (1, .int (nI i)), (2, .int (nI n)), (3, .int (nI v)), (4, .int (nI mq))]) hx hb dX12_likeTakes_5 hl (by decide) rfl (fun ls hl => ?_)
  have lp_7 : ∀ (fu : Nat) (pp : Nat) (hfu : 101 - pp < fu) (hp1 : 1 ≤ pp) (hp2 : pp ≤ max v 1) (H : Heap) (locs : List Loc) (ls : Array Slot), va_P (dC, dI) classes [(g0, .inr (12, [.ref m_refused, .ref m_kind, .ref m_figure, .ref m_weight, .ref m_got, .ref m_setting, .int men, .int msy, .int mdn, .ref m_tape, .ref m_letter, .ref m_letterAt, .ref m_told, .int tp, .int mat, .int stm, .ref m_kept, .int hi, .int ki, .int crs, .ref m_price, .ref m_offer, .ref m_gets, .ref m_yes, .ref m_buys, .ref m_ends, .ref m_carried, .ref m_row, .int rm, .ref m_keptRow, .ref m_likeGets, .ref m_likePrice, .ref m_ahead])), (m_setting, .inl (aC 0, 5, .inl stf)), (m_likeGets, .inl (aC 0, 61, .inl gf)), (m_likePrice, .inl (aC 0, 61, .inl pf))] H → va_D A [(g0, .inr (12, [.ref m_refused, .ref m_kind, .ref m_figure, .ref m_weight, .ref m_got, .ref m_setting, .int men, .int msy, .int mdn, .ref m_tape, .ref m_letter, .ref m_letterAt, .ref m_told, .int tp, .int mat, .int stm, .ref m_kept, .int hi, .int ki, .int crs, .ref m_price, .ref m_offer, .ref m_gets, .ref m_yes, .ref m_buys, .ref m_ends, .ref m_carried, .ref m_row, .int rm, .ref m_keptRow, .ref m_likeGets, .ref m_likePrice, .ref m_ahead])), (m_setting, .inl (aC 0, 5, .inl stf)), (m_likeGets, .inl (aC 0, 61, .inl gf)), (m_likePrice, .inl (aC 0, 61, .inl pf))] → va_S A s.heap H locs → lv_has ls 9 [(0, .ref g0), (1, .int (nI i)), (2, .int (nI n)), (3, .int (nI v)), (4, .int (nI mq)), (5, .int (iI ((mq : Int) - cu Q (i + 1) (n - 1 - i) (pp - 1)))), (6, .int (nI pp))] → W p l e (headSpec (wW yX12_likeTakes cX12_likeTakes 9 (none : Option FieldType)) ({ frames := 1, cells := 0, slots := 0, locals := 25 } : Room)).room s m ([.ref g0, .int (nI i), .int (nI n), .int (nI v), .int (nI mq)] : List Value).toArray below meth c H locs 0 0 (MQ below (va_Qv (fun (gg : Nat → Int32) => ∀ q, i < q → q < n → gg q = nI (OF Q (i + 1) (n - 1 - i) mq v q)) (fun (gg : Nat → Int32) (t : State) => va_P (dC, dI) classes [(g0, .inr (12, [.ref m_refused, .ref m_kind, .ref m_figure, .ref m_weight, .ref m_got, .ref m_setting, .int men, .int msy, .int mdn, .ref m_tape, .ref m_letter, .ref m_letterAt, .ref m_told, .int tp, .int mat, .int stm, .ref m_kept, .int hi, .int ki, .int crs, .ref m_price, .ref m_offer, .ref m_gets, .ref m_yes, .ref m_buys, .ref m_ends, .ref m_carried, .ref m_row, .int rm, .ref m_keptRow, .ref m_likeGets, .ref m_likePrice, .ref m_ahead])), (m_setting, .inl (aC 0, 5, .inl stf)), (m_likeGets, .inl (aC 0, 61, .inl gg)), (m_likePrice, .inl (aC 0, 61, .inl pf))] t.heap ∧ va_K (dC, dI) classes (TY aC) t ∧ va_D A [(g0, .inr (12, [.ref m_refused, .ref m_kind, .ref m_figure, .ref m_weight, .ref m_got, .ref m_setting, .int men, .int msy, .int mdn, .ref m_tape, .ref m_letter, .ref m_letterAt, .ref m_told, .int tp, .int mat, .int stm, .ref m_kept, .int hi, .int ki, .int crs, .ref m_price, .ref m_offer, .ref m_gets, .ref m_yes, .ref m_buys, .ref m_ends, .ref m_carried, .ref m_row, .int rm, .ref m_keptRow, .ref m_likeGets, .ref m_likePrice, .ref m_ahead])), (m_setting, .inl (aC 0, 5, .inl stf)), (m_likeGets, .inl (aC 0, 61, .inl gg)), (m_likePrice, .inl (aC 0, 61, .inl pf))]) A) ([.ref g0, .int (nI i), .int (nI n), .int (nI v), .int (nI mq)] : List Value).toArray s 0 0 A) (F0 m 7 ls []) := by
    intro fu
    induction fu with
    | zero => intro pp hfu; exact absurd hfu (Nat.not_lt_zero _)
    | succ fu ih_7 =>
      intro pp hfu hp1 hp2 H locs ls hP hD hS hl
      refine lv_iload hx hb dX12_likeTakes_7 (lv_at hl 6 rfl) ?_
      refine lv_iload_n hx hb dX12_likeTakes_9 rfl (lv_at hl 3 rfl) ?_
      refine lv_icmp_ge (tgt := 34) hx hb dX12_likeTakes_10 (by decide) (fun c_2 => ?_) (fun c_2 => ?_)
      · refine lv_iload_n hx hb dX12_likeTakes_34 rfl (lv_at hl 1 rfl) ?_
        refine lv_iconst (v := 1) hx hb dX12_likeTakes_35 (by decide) ?_
        refine lv_iadd hx hb dX12_likeTakes_36 ?_
        refine lv_topi (fun x_3 e_3 => ?_)
        refine lv_istore (lv' := [(6, .int x_3), (0, .ref g0), (1, .int (nI i)), (2, .int (nI n)), (3, .int (nI v)), (4, .int (nI mq)), (5, .int (iI ((mq : Int) - cu Q (i + 1) (n - 1 - i) (pp - 1))))]) hx hb dX12_likeTakes_37 hl (by decide) rfl (fun ls hl => ?_)
        have h9 : x_3 = nI (i + 1) := by rw [e_3, nI_1]
        subst h9
        have hx50 : 0 < v → iI ((mq : Int) - cu Q (i + 1) (n - 1 - i) (pp - 1)) = nI (((mq - cu Q (i + 1) (n - 1 - i) (v - 1))) - cv Q (i + 1) (i + 1 - (i + 1)) v) := fun hv0 => by
          have h8 := hst (v - 1) (by omega)
          have hpv : pp = v := by
            have := (nI_leI (by omega) (by omega)).mp c_2
            omega
          rw [hpv, Nat.sub_self, show cv Q (i + 1) 0 v = 0 from rfl, nI_iI]
          congr 1
          omega
        have lp_39 : ∀ (fu : Nat) (j : Nat) (x5 : Int32) (gc : Nat → Int32) (hfu : n - j < fu) (hj : i < j ∧ j ≤ n) (hx5 : 0 < v → x5 = nI (((mq - cu Q (i + 1) (n - 1 - i) (v - 1))) - cv Q (i + 1) (j - (i + 1)) v)) (hgc : ∀ q, i < q → q < j → gc q = nI (OF Q (i + 1) (n - 1 - i) mq v q)) (H : Heap) (locs : List Loc) (ls : Array Slot), va_P (dC, dI) classes [(g0, .inr (12, [.ref m_refused, .ref m_kind, .ref m_figure, .ref m_weight, .ref m_got, .ref m_setting, .int men, .int msy, .int mdn, .ref m_tape, .ref m_letter, .ref m_letterAt, .ref m_told, .int tp, .int mat, .int stm, .ref m_kept, .int hi, .int ki, .int crs, .ref m_price, .ref m_offer, .ref m_gets, .ref m_yes, .ref m_buys, .ref m_ends, .ref m_carried, .ref m_row, .int rm, .ref m_keptRow, .ref m_likeGets, .ref m_likePrice, .ref m_ahead])), (m_setting, .inl (aC 0, 5, .inl stf)), (m_likeGets, .inl (aC 0, 61, .inl gc)), (m_likePrice, .inl (aC 0, 61, .inl pf))] H → va_D A [(g0, .inr (12, [.ref m_refused, .ref m_kind, .ref m_figure, .ref m_weight, .ref m_got, .ref m_setting, .int men, .int msy, .int mdn, .ref m_tape, .ref m_letter, .ref m_letterAt, .ref m_told, .int tp, .int mat, .int stm, .ref m_kept, .int hi, .int ki, .int crs, .ref m_price, .ref m_offer, .ref m_gets, .ref m_yes, .ref m_buys, .ref m_ends, .ref m_carried, .ref m_row, .int rm, .ref m_keptRow, .ref m_likeGets, .ref m_likePrice, .ref m_ahead])), (m_setting, .inl (aC 0, 5, .inl stf)), (m_likeGets, .inl (aC 0, 61, .inl gc)), (m_likePrice, .inl (aC 0, 61, .inl pf))] → va_S A s.heap H locs → lv_has ls 9 [(0, .ref g0), (1, .int (nI i)), (2, .int (nI n)), (3, .int (nI v)), (4, .int (nI mq)), (5, .int x5), (6, .int (nI j))] → W p l e (headSpec (wW yX12_likeTakes cX12_likeTakes 9 (none : Option FieldType)) ({ frames := 1, cells := 0, slots := 0, locals := 25 } : Room)).room s m ([.ref g0, .int (nI i), .int (nI n), .int (nI v), .int (nI mq)] : List Value).toArray below meth c H locs 0 0 (MQ below (va_Qv (fun (gg : Nat → Int32) => ∀ q, i < q → q < n → gg q = nI (OF Q (i + 1) (n - 1 - i) mq v q)) (fun (gg : Nat → Int32) (t : State) => va_P (dC, dI) classes [(g0, .inr (12, [.ref m_refused, .ref m_kind, .ref m_figure, .ref m_weight, .ref m_got, .ref m_setting, .int men, .int msy, .int mdn, .ref m_tape, .ref m_letter, .ref m_letterAt, .ref m_told, .int tp, .int mat, .int stm, .ref m_kept, .int hi, .int ki, .int crs, .ref m_price, .ref m_offer, .ref m_gets, .ref m_yes, .ref m_buys, .ref m_ends, .ref m_carried, .ref m_row, .int rm, .ref m_keptRow, .ref m_likeGets, .ref m_likePrice, .ref m_ahead])), (m_setting, .inl (aC 0, 5, .inl stf)), (m_likeGets, .inl (aC 0, 61, .inl gg)), (m_likePrice, .inl (aC 0, 61, .inl pf))] t.heap ∧ va_K (dC, dI) classes (TY aC) t ∧ va_D A [(g0, .inr (12, [.ref m_refused, .ref m_kind, .ref m_figure, .ref m_weight, .ref m_got, .ref m_setting, .int men, .int msy, .int mdn, .ref m_tape, .ref m_letter, .ref m_letterAt, .ref m_told, .int tp, .int mat, .int stm, .ref m_kept, .int hi, .int ki, .int crs, .ref m_price, .ref m_offer, .ref m_gets, .ref m_yes, .ref m_buys, .ref m_ends, .ref m_carried, .ref m_row, .int rm, .ref m_keptRow, .ref m_likeGets, .ref m_likePrice, .ref m_ahead])), (m_setting, .inl (aC 0, 5, .inl stf)), (m_likeGets, .inl (aC 0, 61, .inl gg)), (m_likePrice, .inl (aC 0, 61, .inl pf))]) A) ([.ref g0, .int (nI i), .int (nI n), .int (nI v), .int (nI mq)] : List Value).toArray s 0 0 A) (F0 m 39 ls []) := by
          intro fu
          induction fu with
          | zero => intro j x5 gc hfu; exact absurd hfu (Nat.not_lt_zero _)
          | succ fu ih_39 =>
            intro j x5 gc hfu hj hx5 hgc H locs ls hP hD hS hl
            refine lv_iload hx hb dX12_likeTakes_39 (lv_at hl 6 rfl) ?_
            refine lv_iload_n hx hb dX12_likeTakes_41 rfl (lv_at hl 2 rfl) ?_
            refine lv_icmp_ge (tgt := 150) hx hb dX12_likeTakes_42 (by decide) (fun c_4 => ?_) (fun c_4 => ?_)
            · have hjn : j = n := by
                rcases Nat.lt_or_ge j n with q | q
                · exact absurd c_4 (nI_ge q (by omega))
                · omega
              have hP9 := hP.sub (ws' := [(g0, .inr (12, [.ref m_refused, .ref m_kind, .ref m_figure, .ref m_weight, .ref m_got, .ref m_setting, .int men, .int msy, .int mdn, .ref m_tape, .ref m_letter, .ref m_letterAt, .ref m_told, .int tp, .int mat, .int stm, .ref m_kept, .int hi, .int ki, .int crs, .ref m_price, .ref m_offer, .ref m_gets, .ref m_yes, .ref m_buys, .ref m_ends, .ref m_carried, .ref m_row, .int rm, .ref m_keptRow, .ref m_likeGets, .ref m_likePrice, .ref m_ahead])), (m_setting, .inl (aC 0, 5, .inl stf)), (m_likeGets, .inl (aC 0, 61, .inl gc)), (m_likePrice, .inl (aC 0, 61, .inl pf))]) [0, 1, 2, 3] rfl
              have hD9 := hD.sub (ws' := [(g0, .inr (12, [.ref m_refused, .ref m_kind, .ref m_figure, .ref m_weight, .ref m_got, .ref m_setting, .int men, .int msy, .int mdn, .ref m_tape, .ref m_letter, .ref m_letterAt, .ref m_told, .int tp, .int mat, .int stm, .ref m_kept, .int hi, .int ki, .int crs, .ref m_price, .ref m_offer, .ref m_gets, .ref m_yes, .ref m_buys, .ref m_ends, .ref m_carried, .ref m_row, .int rm, .ref m_keptRow, .ref m_likeGets, .ref m_likePrice, .ref m_ahead])), (m_setting, .inl (aC 0, 5, .inl stf)), (m_likeGets, .inl (aC 0, 61, .inl gc)), (m_likePrice, .inl (aC 0, 61, .inl pf))]) [0, 1, 2, 3] (by decide) rfl
              refine W.widen (k := 0) (n := 0) (by omega) (by omega) ?_
              exact W.vret hx hb hr (fun t ht hW => ⟨⟨(gc), rfl, fun q h1 h2 => hgc q h1 (by omega), by rw [ht]; exact hP9, va_K.moved hW.alike hK, hD9⟩, hS.F ht⟩) hS.2.2 dX12_likeTakes_150
            · have hlt : j < n := by
                rcases Nat.lt_or_ge j n with q | q
                · exact q
                · exact absurd (nI_le q (by omega)) c_4
              obtain ⟨hq1, hq2⟩ := hQ j hj.1 hlt
              have hcvl := cv_le (Q := Q) (a := i + 1) (y := j - (i + 1)) (v := v)
              refine lv_aload_n hx hb dX12_likeTakes_45 rfl (lv_at hl 0 rfl) ?_
              refine va_get (D := (dC, dI)) (ci := 12) (v := .ref m_setting) (C := RX12) (T := TX12) (N := 33) hx hb hts inX12 hown hK hP 0 rfl rfl 5 (by decide) (hts _ (gw kw_722 rfl)) (fun _ h9 => h9) rfl dX12_likeTakes_46 ?_
              refine lv_iconst (v := 3) hx hb dX12_likeTakes_49 (by decide) ?_
              have h_5 : vp_in 3 5 := by unfold vp_in; decide
              refine va_iald hx hb hK hP 1 0 rfl rfl h_5 dX12_likeTakes_50 ?_
              refine lv_topi (fun x_6 e_6 => ?_)
              have h9 : x_6 = (stf 3) := by rw [e_6]; rfl
              subst h9
              refine lv_if_ne (tgt := 59) hx hb dX12_likeTakes_51 (by decide) (fun c_7 => ?_) (fun c_7 => ?_)
              · exact absurd hf c_7
              · refine lv_iload hx hb dX12_likeTakes_54 (lv_at hl 6 rfl) ?_
                refine lv_goto (tgt := 65) hx hb dX12_likeTakes_56 (by decide) ?_
                refine lv_istore (lv' := [(7, .int (nI j)), (0, .ref g0), (1, .int (nI i)), (2, .int (nI n)), (3, .int (nI v)), (4, .int (nI mq)), (5, .int x5), (6, .int (nI j))]) hx hb dX12_likeTakes_65 hl (by decide) rfl (fun ls hl => ?_)
                have jp_121 : ∀ (b : Int32) (xb : Int32) (hbb : (b = 1 ∧ OF Q (i + 1) (n - 1 - i) mq v j = Q j) ∨ (b = 0 ∧ OF Q (i + 1) (n - 1 - i) mq v j = 0)) (hxx : 0 < v → xb = nI (((mq - cu Q (i + 1) (n - 1 - i) (v - 1))) - cv Q (i + 1) (j + 1 - (i + 1)) v)) (H : Heap) (locs : List Loc) (ls : Array Slot), va_P (dC, dI) classes [(g0, .inr (12, [.ref m_refused, .ref m_kind, .ref m_figure, .ref m_weight, .ref m_got, .ref m_setting, .int men, .int msy, .int mdn, .ref m_tape, .ref m_letter, .ref m_letterAt, .ref m_told, .int tp, .int mat, .int stm, .ref m_kept, .int hi, .int ki, .int crs, .ref m_price, .ref m_offer, .ref m_gets, .ref m_yes, .ref m_buys, .ref m_ends, .ref m_carried, .ref m_row, .int rm, .ref m_keptRow, .ref m_likeGets, .ref m_likePrice, .ref m_ahead])), (m_setting, .inl (aC 0, 5, .inl stf)), (m_likeGets, .inl (aC 0, 61, .inl gc)), (m_likePrice, .inl (aC 0, 61, .inl pf))] H → va_D A [(g0, .inr (12, [.ref m_refused, .ref m_kind, .ref m_figure, .ref m_weight, .ref m_got, .ref m_setting, .int men, .int msy, .int mdn, .ref m_tape, .ref m_letter, .ref m_letterAt, .ref m_told, .int tp, .int mat, .int stm, .ref m_kept, .int hi, .int ki, .int crs, .ref m_price, .ref m_offer, .ref m_gets, .ref m_yes, .ref m_buys, .ref m_ends, .ref m_carried, .ref m_row, .int rm, .ref m_keptRow, .ref m_likeGets, .ref m_likePrice, .ref m_ahead])), (m_setting, .inl (aC 0, 5, .inl stf)), (m_likeGets, .inl (aC 0, 61, .inl gc)), (m_likePrice, .inl (aC 0, 61, .inl pf))] → va_S A s.heap H locs → lv_has ls 9 [(0, .ref g0), (1, .int (nI i)), (2, .int (nI n)), (3, .int (nI v)), (4, .int (nI mq)), (5, .int xb), (6, .int (nI j)), (7, .int (nI j)), (8, .int b)] → W p l e (headSpec (wW yX12_likeTakes cX12_likeTakes 9 (none : Option FieldType)) ({ frames := 1, cells := 0, slots := 0, locals := 25 } : Room)).room s m ([.ref g0, .int (nI i), .int (nI n), .int (nI v), .int (nI mq)] : List Value).toArray below meth c H locs 0 0 (MQ below (va_Qv (fun (gg : Nat → Int32) => ∀ q, i < q → q < n → gg q = nI (OF Q (i + 1) (n - 1 - i) mq v q)) (fun (gg : Nat → Int32) (t : State) => va_P (dC, dI) classes [(g0, .inr (12, [.ref m_refused, .ref m_kind, .ref m_figure, .ref m_weight, .ref m_got, .ref m_setting, .int men, .int msy, .int mdn, .ref m_tape, .ref m_letter, .ref m_letterAt, .ref m_told, .int tp, .int mat, .int stm, .ref m_kept, .int hi, .int ki, .int crs, .ref m_price, .ref m_offer, .ref m_gets, .ref m_yes, .ref m_buys, .ref m_ends, .ref m_carried, .ref m_row, .int rm, .ref m_keptRow, .ref m_likeGets, .ref m_likePrice, .ref m_ahead])), (m_setting, .inl (aC 0, 5, .inl stf)), (m_likeGets, .inl (aC 0, 61, .inl gg)), (m_likePrice, .inl (aC 0, 61, .inl pf))] t.heap ∧ va_K (dC, dI) classes (TY aC) t ∧ va_D A [(g0, .inr (12, [.ref m_refused, .ref m_kind, .ref m_figure, .ref m_weight, .ref m_got, .ref m_setting, .int men, .int msy, .int mdn, .ref m_tape, .ref m_letter, .ref m_letterAt, .ref m_told, .int tp, .int mat, .int stm, .ref m_kept, .int hi, .int ki, .int crs, .ref m_price, .ref m_offer, .ref m_gets, .ref m_yes, .ref m_buys, .ref m_ends, .ref m_carried, .ref m_row, .int rm, .ref m_keptRow, .ref m_likeGets, .ref m_likePrice, .ref m_ahead])), (m_setting, .inl (aC 0, 5, .inl stf)), (m_likeGets, .inl (aC 0, 61, .inl gg)), (m_likePrice, .inl (aC 0, 61, .inl pf))]) A) ([.ref g0, .int (nI i), .int (nI n), .int (nI v), .int (nI mq)] : List Value).toArray s 0 0 A) (F0 m 121 ls []) := by
                  intro b xb hbb hxx H locs ls hP hD hS hl
                  refine lv_aload_n hx hb dX12_likeTakes_121 rfl (lv_at hl 0 rfl) ?_
                  refine va_get (D := (dC, dI)) (ci := 12) (v := .ref m_likeGets) (C := RX12) (T := TX12) (N := 33) hx hb hts inX12 hown hK hP 0 rfl rfl 30 (by decide) (hts _ (gw kw_747 rfl)) (fun _ h9 => h9) rfl dX12_likeTakes_122 ?_
                  refine lv_iload hx hb dX12_likeTakes_125 (lv_at hl 7 rfl) ?_
                  refine lv_iload hx hb dX12_likeTakes_127 (lv_at hl 8 rfl) ?_
                  refine lv_if_eq (tgt := 142) hx hb dX12_likeTakes_129 (by decide) (fun c_8 => ?_) (fun c_8 => ?_)
                  · refine lv_iconst (v := 0) hx hb dX12_likeTakes_142 (by decide) ?_
                    have h_9 : vp_in (nI j) 61 := vp_in_nI (by omega) (by omega)
                    refine va_iast hx hb hK hP hD hS 2 0 rfl rfl h_9 dX12_likeTakes_143 (fun H locs hP hD hS => ?_)
                    obtain ⟨f_10, e_f_10⟩ : ∃ y : Nat → Int32, y = upd gc (nI j : Int32).toNatClampNeg 0 := ⟨_, rfl⟩
                    have hP : va_P (dC, dI) classes [(g0, .inr (12, [.ref m_refused, .ref m_kind, .ref m_figure, .ref m_weight, .ref m_got, .ref m_setting, .int men, .int msy, .int mdn, .ref m_tape, .ref m_letter, .ref m_letterAt, .ref m_told, .int tp, .int mat, .int stm, .ref m_kept, .int hi, .int ki, .int crs, .ref m_price, .ref m_offer, .ref m_gets, .ref m_yes, .ref m_buys, .ref m_ends, .ref m_carried, .ref m_row, .int rm, .ref m_keptRow, .ref m_likeGets, .ref m_likePrice, .ref m_ahead])), (m_setting, .inl (aC 0, 5, .inl stf)), (m_likeGets, .inl (aC 0, 61, .inl f_10)), (m_likePrice, .inl (aC 0, 61, .inl pf))] H := by rw [e_f_10]; exact hP
                    have hD : va_D A [(g0, .inr (12, [.ref m_refused, .ref m_kind, .ref m_figure, .ref m_weight, .ref m_got, .ref m_setting, .int men, .int msy, .int mdn, .ref m_tape, .ref m_letter, .ref m_letterAt, .ref m_told, .int tp, .int mat, .int stm, .ref m_kept, .int hi, .int ki, .int crs, .ref m_price, .ref m_offer, .ref m_gets, .ref m_yes, .ref m_buys, .ref m_ends, .ref m_carried, .ref m_row, .int rm, .ref m_keptRow, .ref m_likeGets, .ref m_likePrice, .ref m_ahead])), (m_setting, .inl (aC 0, 5, .inl stf)), (m_likeGets, .inl (aC 0, 61, .inl f_10)), (m_likePrice, .inl (aC 0, 61, .inl pf))] := by rw [e_f_10]; exact hD
                    have hOF : (0 : Int32) = nI (OF Q (i + 1) (n - 1 - i) mq v j) := by
                      rcases hbb with ⟨q1, q2⟩ | ⟨q1, q2⟩
                      · exact absurd (q1.symm.trans c_8) (by decide)
                      · rw [q2]; rfl
                    have hb2 : ∀ q, i < q → q < j + 1 → f_10 q = nI (OF Q (i + 1) (n - 1 - i) mq v q) := fun q h1 h2 => by
                      rw [e_f_10, nI_clamp (by omega)]
                      by_cases e : q = j
                      · rw [e, pk_us]; exact hOF
                      · rw [pk_un e]; exact hgc q h1 (by omega)
                    obtain ⟨x_11, e_11⟩ : ∃ y : Int32, y = (nI j) + 1 := ⟨_, rfl⟩
                    refine lv_iinc (v := x_11) (lv' := [(6, .int x_11), (0, .ref g0), (1, .int (nI i)), (2, .int (nI n)), (3, .int (nI v)), (4, .int (nI mq)), (5, .int xb), (7, .int (nI j)), (8, .int b)]) hx hb dX12_likeTakes_144 hl (k := 6) rfl (by rw [e_11]; rfl) (by decide) rfl (fun ls hl => ?_)
                    have h9 : x_11 = nI (j + 1) := by rw [e_11, nI_1]
                    subst h9
                    refine lv_goto (tgt := 39) hx hb dX12_likeTakes_147 (by decide) ?_
                    exact ih_39 (j + 1) xb f_10 (ms_lt hlt hfu) (by omega) (hxx) (hb2) _ _ _ (hP.sub [0, 1, 2, 3] rfl) (hD.sub [0, 1, 2, 3] (by decide) rfl) hS (lv_sub hl [1, 2, 3, 4, 5, 6, 0] rfl)
                  · refine lv_aload_n hx hb dX12_likeTakes_132 rfl (lv_at hl 0 rfl) ?_
                    refine va_get (D := (dC, dI)) (ci := 12) (v := .ref m_likePrice) (C := RX12) (T := TX12) (N := 33) hx hb hts inX12 hown hK hP 0 rfl rfl 31 (by decide) (hts _ (gw kw_748 rfl)) (fun _ h9 => h9) rfl dX12_likeTakes_133 ?_
                    refine lv_iload hx hb dX12_likeTakes_136 (lv_at hl 7 rfl) ?_
                    have h_12 : vp_in (nI j) 61 := vp_in_nI (by omega) (by omega)
                    refine va_iald hx hb hK hP 3 0 rfl rfl h_12 dX12_likeTakes_138 ?_
                    refine lv_topi (fun x_13 e_13 => ?_)
                    have h9 : x_13 = nI (Q j) := by rw [e_13, nI_clamp (by omega)]; exact hq1
                    subst h9
                    refine lv_goto (tgt := 143) hx hb dX12_likeTakes_139 (by decide) ?_
                    have h_14 : vp_in (nI j) 61 := vp_in_nI (by omega) (by omega)
                    refine va_iast hx hb hK hP hD hS 2 0 rfl rfl h_14 dX12_likeTakes_143 (fun H locs hP hD hS => ?_)
                    obtain ⟨f_15, e_f_15⟩ : ∃ y : Nat → Int32, y = upd gc (nI j : Int32).toNatClampNeg (nI (Q j)) := ⟨_, rfl⟩
                    have hP : va_P (dC, dI) classes [(g0, .inr (12, [.ref m_refused, .ref m_kind, .ref m_figure, .ref m_weight, .ref m_got, .ref m_setting, .int men, .int msy, .int mdn, .ref m_tape, .ref m_letter, .ref m_letterAt, .ref m_told, .int tp, .int mat, .int stm, .ref m_kept, .int hi, .int ki, .int crs, .ref m_price, .ref m_offer, .ref m_gets, .ref m_yes, .ref m_buys, .ref m_ends, .ref m_carried, .ref m_row, .int rm, .ref m_keptRow, .ref m_likeGets, .ref m_likePrice, .ref m_ahead])), (m_setting, .inl (aC 0, 5, .inl stf)), (m_likeGets, .inl (aC 0, 61, .inl f_15)), (m_likePrice, .inl (aC 0, 61, .inl pf))] H := by rw [e_f_15]; exact hP
                    have hD : va_D A [(g0, .inr (12, [.ref m_refused, .ref m_kind, .ref m_figure, .ref m_weight, .ref m_got, .ref m_setting, .int men, .int msy, .int mdn, .ref m_tape, .ref m_letter, .ref m_letterAt, .ref m_told, .int tp, .int mat, .int stm, .ref m_kept, .int hi, .int ki, .int crs, .ref m_price, .ref m_offer, .ref m_gets, .ref m_yes, .ref m_buys, .ref m_ends, .ref m_carried, .ref m_row, .int rm, .ref m_keptRow, .ref m_likeGets, .ref m_likePrice, .ref m_ahead])), (m_setting, .inl (aC 0, 5, .inl stf)), (m_likeGets, .inl (aC 0, 61, .inl f_15)), (m_likePrice, .inl (aC 0, 61, .inl pf))] := by rw [e_f_15]; exact hD
                    have hOF : nI (Q j) = nI (OF Q (i + 1) (n - 1 - i) mq v j) := by
                      rcases hbb with ⟨q1, q2⟩ | ⟨q1, q2⟩
                      · rw [q2]
                      · exact absurd q1 c_8
                    have hb2 : ∀ q, i < q → q < j + 1 → f_15 q = nI (OF Q (i + 1) (n - 1 - i) mq v q) := fun q h1 h2 => by
                      rw [e_f_15, nI_clamp (by omega)]
                      by_cases e : q = j
                      · rw [e, pk_us]; exact hOF
                      · rw [pk_un e]; exact hgc q h1 (by omega)
                    obtain ⟨x_16, e_16⟩ : ∃ y : Int32, y = (nI j) + 1 := ⟨_, rfl⟩
                    refine lv_iinc (v := x_16) (lv' := [(6, .int x_16), (0, .ref g0), (1, .int (nI i)), (2, .int (nI n)), (3, .int (nI v)), (4, .int (nI mq)), (5, .int xb), (7, .int (nI j)), (8, .int b)]) hx hb dX12_likeTakes_144 hl (k := 6) rfl (by rw [e_16]; rfl) (by decide) rfl (fun ls hl => ?_)
                    have h9 : x_16 = nI (j + 1) := by rw [e_16, nI_1]
                    subst h9
                    refine lv_goto (tgt := 39) hx hb dX12_likeTakes_147 (by decide) ?_
                    exact ih_39 (j + 1) xb f_15 (ms_lt hlt hfu) (by omega) (hxx) (hb2) _ _ _ (hP.sub [0, 1, 2, 3] rfl) (hD.sub [0, 1, 2, 3] (by decide) rfl) hS (lv_sub hl [1, 2, 3, 4, 5, 6, 0] rfl)
                refine lv_aload_n hx hb dX12_likeTakes_67 rfl (lv_at hl 1 rfl) ?_
                refine va_get (D := (dC, dI)) (ci := 12) (v := .ref m_likePrice) (C := RX12) (T := TX12) (N := 33) hx hb hts inX12 hown hK hP 0 rfl rfl 31 (by decide) (hts _ (gw kw_748 rfl)) (fun _ h9 => h9) rfl dX12_likeTakes_68 ?_
                refine lv_iload hx hb dX12_likeTakes_71 (lv_at hl 0 rfl) ?_
                have h_17 : vp_in (nI j) 61 := vp_in_nI (by omega) (by omega)
                refine va_iald hx hb hK hP 3 0 rfl rfl h_17 dX12_likeTakes_73 ?_
                refine lv_topi (fun x_18 e_18 => ?_)
                have h9 : x_18 = nI (Q j) := by rw [e_18, nI_clamp (by omega)]; exact hq1
                subst h9
                refine lv_if_le (tgt := 92) hx hb dX12_likeTakes_74 (by decide) (fun c_19 => ?_) (fun c_19 => ?_)
                · refine lv_iconst (v := 0) hx hb dX12_likeTakes_92 (by decide) ?_
                  refine lv_istore (lv' := [(8, .int 0), (7, .int (nI j)), (0, .ref g0), (1, .int (nI i)), (2, .int (nI n)), (3, .int (nI v)), (4, .int (nI mq)), (5, .int x5), (6, .int (nI j))]) hx hb dX12_likeTakes_93 hl (by decide) rfl (fun ls hl => ?_)
                  refine lv_aload_n hx hb dX12_likeTakes_95 rfl (lv_at hl 2 rfl) ?_
                  refine va_get (D := (dC, dI)) (ci := 12) (v := .ref m_likePrice) (C := RX12) (T := TX12) (N := 33) hx hb hts inX12 hown hK hP 0 rfl rfl 31 (by decide) (hts _ (gw kw_748 rfl)) (fun _ h9 => h9) rfl dX12_likeTakes_96 ?_
                  refine lv_iload hx hb dX12_likeTakes_99 (lv_at hl 1 rfl) ?_
                  have h_20 : vp_in (nI j) 61 := vp_in_nI (by omega) (by omega)
                  refine va_iald hx hb hK hP 3 0 rfl rfl h_20 dX12_likeTakes_101 ?_
                  refine lv_topi (fun x_21 e_21 => ?_)
                  have h9 : x_21 = nI (Q j) := by rw [e_21, nI_clamp (by omega)]; exact hq1
                  subst h9
                  refine lv_iload_n hx hb dX12_likeTakes_102 rfl (lv_at hl 5 rfl) ?_
                  refine lv_icmp_ne (tgt := 121) hx hb dX12_likeTakes_103 (by decide) (fun c_22 => ?_) (fun c_22 => ?_)
                  · have hA : Q j = 0 := by have := (nI_leI (a := Q j) (b := 0) (by omega) (by omega)).mp c_19; omega
                    have hDq : ¬ Q j = v := fun q => c_22 (by rw [q])
                    have hoc := OF_case (Q := Q) (a := i + 1) (y := n - 1 - i) (m := mq) (v := v) (j := j) (by omega) (by omega) hst
                    have hbj : ((0 : Int32) = 1 ∧ OF Q (i + 1) (n - 1 - i) mq v j = Q j) ∨ ((0 : Int32) = 0 ∧ OF Q (i + 1) (n - 1 - i) mq v j = 0) := Or.inr ⟨rfl, by rw [hoc, if_neg (by omega), if_neg (by omega)]⟩
                    have hxj : 0 < v → x5 = nI (((mq - cu Q (i + 1) (n - 1 - i) (v - 1))) - cv Q (i + 1) (j + 1 - (i + 1)) v) := fun hv0 => by rw [hx5 hv0, cv_at (by omega)]; congr 1; split <;> omega
                    exact jp_121 0 x5 (hbj) (hxj) _ _ _ (hP.sub [0, 1, 2, 3] rfl) (hD.sub [0, 1, 2, 3] (by decide) rfl) hS (lv_sub hl [2, 3, 4, 5, 6, 7, 8, 1, 0] rfl)
                  · refine lv_iload_n hx hb dX12_likeTakes_106 rfl (lv_at hl 5 rfl) ?_
                    refine lv_if_le (tgt := 121) hx hb dX12_likeTakes_107 (by decide) (fun c_23 => ?_) (fun c_23 => ?_)
                    · have hA : Q j = 0 := by have := (nI_leI (a := Q j) (b := 0) (by omega) (by omega)).mp c_19; omega
                      have hDq : Q j = v := (nI_eq (by omega) (by omega)).mp c_22
                      have hE : v = 0 := by have := (nI_leI (a := v) (b := 0) (by omega) (by omega)).mp c_23; omega
                      have hoc := OF_case (Q := Q) (a := i + 1) (y := n - 1 - i) (m := mq) (v := v) (j := j) (by omega) (by omega) hst
                      have hbj : ((0 : Int32) = 1 ∧ OF Q (i + 1) (n - 1 - i) mq v j = Q j) ∨ ((0 : Int32) = 0 ∧ OF Q (i + 1) (n - 1 - i) mq v j = 0) := Or.inr ⟨rfl, by rw [hoc, if_neg (by omega), if_neg (by omega)]⟩
                      have hxj : 0 < v → x5 = nI (((mq - cu Q (i + 1) (n - 1 - i) (v - 1))) - cv Q (i + 1) (j + 1 - (i + 1)) v) := fun hv0 => by rw [hx5 hv0, cv_at (by omega)]; congr 1; split <;> omega
                      exact jp_121 0 x5 (hbj) (hxj) _ _ _ (hP.sub [0, 1, 2, 3] rfl) (hD.sub [0, 1, 2, 3] (by decide) rfl) hS (lv_sub hl [2, 3, 4, 5, 6, 7, 8, 1, 0] rfl)
                    · refine lv_iload hx hb dX12_likeTakes_110 (lv_at hl 7 rfl) ?_
                      refine lv_if_le (tgt := 121) hx hb dX12_likeTakes_112 (by decide) (fun c_24 => ?_) (fun c_24 => ?_)
                      · have hA : Q j = 0 := by have := (nI_leI (a := Q j) (b := 0) (by omega) (by omega)).mp c_19; omega
                        have hDq : Q j = v := (nI_eq (by omega) (by omega)).mp c_22
                        have hE : 0 < v := by
                          rcases Nat.eq_zero_or_pos v with q | q
                          · exact absurd (by rw [q]; decide) c_23
                          · exact q
                        have hF : ((mq - cu Q (i + 1) (n - 1 - i) (v - 1))) - cv Q (i + 1) (j - (i + 1)) v = 0 := by have := c_24; rw [hx5 hE] at this; have := (nI_leI (a := ((mq - cu Q (i + 1) (n - 1 - i) (v - 1))) - cv Q (i + 1) (j - (i + 1)) v) (b := 0) (by omega) (by omega)).mp this; omega
                        have hoc := OF_case (Q := Q) (a := i + 1) (y := n - 1 - i) (m := mq) (v := v) (j := j) (by omega) (by omega) hst
                        have hbj : ((0 : Int32) = 1 ∧ OF Q (i + 1) (n - 1 - i) mq v j = Q j) ∨ ((0 : Int32) = 0 ∧ OF Q (i + 1) (n - 1 - i) mq v j = 0) := Or.inr ⟨rfl, by rw [hoc, if_neg (by omega), if_neg (by omega)]⟩
                        have hxj : 0 < v → x5 = nI (((mq - cu Q (i + 1) (n - 1 - i) (v - 1))) - cv Q (i + 1) (j + 1 - (i + 1)) v) := fun hv0 => by rw [hx5 hv0, cv_at (by omega)]; congr 1; split <;> omega
                        exact jp_121 0 x5 (hbj) (hxj) _ _ _ (hP.sub [0, 1, 2, 3] rfl) (hD.sub [0, 1, 2, 3] (by decide) rfl) hS (lv_sub hl [2, 3, 4, 5, 6, 7, 8, 1, 0] rfl)
                      · refine lv_iconst (v := 1) hx hb dX12_likeTakes_115 (by decide) ?_
                        refine lv_istore (lv' := [(8, .int 1), (7, .int (nI j)), (0, .ref g0), (1, .int (nI i)), (2, .int (nI n)), (3, .int (nI v)), (4, .int (nI mq)), (5, .int x5), (6, .int (nI j))]) hx hb dX12_likeTakes_116 hl (by decide) rfl (fun ls hl => ?_)
                        obtain ⟨x_25, e_25⟩ : ∃ y : Int32, y = x5 + (-1) := ⟨_, rfl⟩
                        refine lv_iinc (v := x_25) (lv' := [(5, .int x_25), (8, .int 1), (7, .int (nI j)), (0, .ref g0), (1, .int (nI i)), (2, .int (nI n)), (3, .int (nI v)), (4, .int (nI mq)), (6, .int (nI j))]) hx hb dX12_likeTakes_118 hl (k := 7) rfl (by rw [e_25]; rfl) (by decide) rfl (fun ls hl => ?_)
                        have hA : Q j = 0 := by have := (nI_leI (a := Q j) (b := 0) (by omega) (by omega)).mp c_19; omega
                        have hDq : Q j = v := (nI_eq (by omega) (by omega)).mp c_22
                        have hE : 0 < v := by
                          rcases Nat.eq_zero_or_pos v with q | q
                          · exact absurd (by rw [q]; decide) c_23
                          · exact q
                        have hF : 0 < ((mq - cu Q (i + 1) (n - 1 - i) (v - 1))) - cv Q (i + 1) (j - (i + 1)) v := by
                          rcases Nat.eq_zero_or_pos (((mq - cu Q (i + 1) (n - 1 - i) (v - 1))) - cv Q (i + 1) (j - (i + 1)) v) with q | q
                          · exact absurd (by rw [hx5 hE, q]; decide) c_24
                          · exact q
                        have hoc := OF_case (Q := Q) (a := i + 1) (y := n - 1 - i) (m := mq) (v := v) (j := j) (by omega) (by omega) hst
                        have hbj : ((1 : Int32) = 1 ∧ OF Q (i + 1) (n - 1 - i) mq v j = Q j) ∨ ((1 : Int32) = 0 ∧ OF Q (i + 1) (n - 1 - i) mq v j = 0) := Or.inl ⟨rfl, by rw [hoc, if_neg (by omega), if_pos ⟨hDq, hE, by omega⟩, hDq]⟩
                        have hxj : 0 < v → x_25 = nI (((mq - cu Q (i + 1) (n - 1 - i) (v - 1))) - cv Q (i + 1) (j + 1 - (i + 1)) v) := fun hv0 => by rw [e_25, hx5 hv0, cv_at (by omega), if_pos hDq, show ((mq - cu Q (i + 1) (n - 1 - i) (v - 1))) - cv Q (i + 1) (j - (i + 1)) v = (((mq - cu Q (i + 1) (n - 1 - i) (v - 1))) - (cv Q (i + 1) (j - (i + 1)) v + 1)) + 1 by omega]; exact pk_m1 _
                        exact jp_121 1 x_25 (hbj) (hxj) _ _ _ (hP.sub [0, 1, 2, 3] rfl) (hD.sub [0, 1, 2, 3] (by decide) rfl) hS (lv_sub hl [3, 4, 5, 6, 7, 0, 8, 2, 1] rfl)
                · refine lv_aload_n hx hb dX12_likeTakes_77 rfl (lv_at hl 1 rfl) ?_
                  refine va_get (D := (dC, dI)) (ci := 12) (v := .ref m_likePrice) (C := RX12) (T := TX12) (N := 33) hx hb hts inX12 hown hK hP 0 rfl rfl 31 (by decide) (hts _ (gw kw_748 rfl)) (fun _ h9 => h9) rfl dX12_likeTakes_78 ?_
                  refine lv_iload hx hb dX12_likeTakes_81 (lv_at hl 0 rfl) ?_
                  have h_26 : vp_in (nI j) 61 := vp_in_nI (by omega) (by omega)
                  refine va_iald hx hb hK hP 3 0 rfl rfl h_26 dX12_likeTakes_83 ?_
                  refine lv_topi (fun x_27 e_27 => ?_)
                  have h9 : x_27 = nI (Q j) := by rw [e_27, nI_clamp (by omega)]; exact hq1
                  subst h9
                  refine lv_iload_n hx hb dX12_likeTakes_84 rfl (lv_at hl 4 rfl) ?_
                  refine lv_icmp_ge (tgt := 92) hx hb dX12_likeTakes_85 (by decide) (fun c_28 => ?_) (fun c_28 => ?_)
                  · refine lv_iconst (v := 0) hx hb dX12_likeTakes_92 (by decide) ?_
                    refine lv_istore (lv' := [(8, .int 0), (7, .int (nI j)), (0, .ref g0), (1, .int (nI i)), (2, .int (nI n)), (3, .int (nI v)), (4, .int (nI mq)), (5, .int x5), (6, .int (nI j))]) hx hb dX12_likeTakes_93 hl (by decide) rfl (fun ls hl => ?_)
                    refine lv_aload_n hx hb dX12_likeTakes_95 rfl (lv_at hl 2 rfl) ?_
                    refine va_get (D := (dC, dI)) (ci := 12) (v := .ref m_likePrice) (C := RX12) (T := TX12) (N := 33) hx hb hts inX12 hown hK hP 0 rfl rfl 31 (by decide) (hts _ (gw kw_748 rfl)) (fun _ h9 => h9) rfl dX12_likeTakes_96 ?_
                    refine lv_iload hx hb dX12_likeTakes_99 (lv_at hl 1 rfl) ?_
                    have h_29 : vp_in (nI j) 61 := vp_in_nI (by omega) (by omega)
                    refine va_iald hx hb hK hP 3 0 rfl rfl h_29 dX12_likeTakes_101 ?_
                    refine lv_topi (fun x_30 e_30 => ?_)
                    have h9 : x_30 = nI (Q j) := by rw [e_30, nI_clamp (by omega)]; exact hq1
                    subst h9
                    refine lv_iload_n hx hb dX12_likeTakes_102 rfl (lv_at hl 5 rfl) ?_
                    refine lv_icmp_ne (tgt := 121) hx hb dX12_likeTakes_103 (by decide) (fun c_31 => ?_) (fun c_31 => ?_)
                    · have hA : 0 < Q j := by
                        rcases Nat.eq_zero_or_pos (Q j) with q | q
                        · exact absurd (by rw [q]; decide) c_19
                        · exact q
                      have hB : v ≤ Q j := (nI_leI (by omega) (by omega)).mp c_28
                      have hDq : ¬ Q j = v := fun q => c_31 (by rw [q])
                      have hoc := OF_case (Q := Q) (a := i + 1) (y := n - 1 - i) (m := mq) (v := v) (j := j) (by omega) (by omega) hst
                      have hbj : ((0 : Int32) = 1 ∧ OF Q (i + 1) (n - 1 - i) mq v j = Q j) ∨ ((0 : Int32) = 0 ∧ OF Q (i + 1) (n - 1 - i) mq v j = 0) := Or.inr ⟨rfl, by rw [hoc, if_neg (by omega), if_neg (by omega)]⟩
                      have hxj : 0 < v → x5 = nI (((mq - cu Q (i + 1) (n - 1 - i) (v - 1))) - cv Q (i + 1) (j + 1 - (i + 1)) v) := fun hv0 => by rw [hx5 hv0, cv_at (by omega)]; congr 1; split <;> omega
                      exact jp_121 0 x5 (hbj) (hxj) _ _ _ (hP.sub [0, 1, 2, 3] rfl) (hD.sub [0, 1, 2, 3] (by decide) rfl) hS (lv_sub hl [2, 3, 4, 5, 6, 7, 8, 1, 0] rfl)
                    · refine lv_iload_n hx hb dX12_likeTakes_106 rfl (lv_at hl 5 rfl) ?_
                      refine lv_if_le (tgt := 121) hx hb dX12_likeTakes_107 (by decide) (fun c_32 => ?_) (fun c_32 => ?_)
                      · have hA : 0 < Q j := by
                          rcases Nat.eq_zero_or_pos (Q j) with q | q
                          · exact absurd (by rw [q]; decide) c_19
                          · exact q
                        have hB : v ≤ Q j := (nI_leI (by omega) (by omega)).mp c_28
                        have hDq : Q j = v := (nI_eq (by omega) (by omega)).mp c_31
                        have hE : v = 0 := by have := (nI_leI (a := v) (b := 0) (by omega) (by omega)).mp c_32; omega
                        have hoc := OF_case (Q := Q) (a := i + 1) (y := n - 1 - i) (m := mq) (v := v) (j := j) (by omega) (by omega) hst
                        have hbj : ((0 : Int32) = 1 ∧ OF Q (i + 1) (n - 1 - i) mq v j = Q j) ∨ ((0 : Int32) = 0 ∧ OF Q (i + 1) (n - 1 - i) mq v j = 0) := Or.inr ⟨rfl, by rw [hoc, if_neg (by omega), if_neg (by omega)]⟩
                        have hxj : 0 < v → x5 = nI (((mq - cu Q (i + 1) (n - 1 - i) (v - 1))) - cv Q (i + 1) (j + 1 - (i + 1)) v) := fun hv0 => by rw [hx5 hv0, cv_at (by omega)]; congr 1; split <;> omega
                        exact jp_121 0 x5 (hbj) (hxj) _ _ _ (hP.sub [0, 1, 2, 3] rfl) (hD.sub [0, 1, 2, 3] (by decide) rfl) hS (lv_sub hl [2, 3, 4, 5, 6, 7, 8, 1, 0] rfl)
                      · refine lv_iload hx hb dX12_likeTakes_110 (lv_at hl 7 rfl) ?_
                        refine lv_if_le (tgt := 121) hx hb dX12_likeTakes_112 (by decide) (fun c_33 => ?_) (fun c_33 => ?_)
                        · have hA : 0 < Q j := by
                            rcases Nat.eq_zero_or_pos (Q j) with q | q
                            · exact absurd (by rw [q]; decide) c_19
                            · exact q
                          have hB : v ≤ Q j := (nI_leI (by omega) (by omega)).mp c_28
                          have hDq : Q j = v := (nI_eq (by omega) (by omega)).mp c_31
                          have hE : 0 < v := by
                            rcases Nat.eq_zero_or_pos v with q | q
                            · exact absurd (by rw [q]; decide) c_32
                            · exact q
                          have hF : ((mq - cu Q (i + 1) (n - 1 - i) (v - 1))) - cv Q (i + 1) (j - (i + 1)) v = 0 := by have := c_33; rw [hx5 hE] at this; have := (nI_leI (a := ((mq - cu Q (i + 1) (n - 1 - i) (v - 1))) - cv Q (i + 1) (j - (i + 1)) v) (b := 0) (by omega) (by omega)).mp this; omega
                          have hoc := OF_case (Q := Q) (a := i + 1) (y := n - 1 - i) (m := mq) (v := v) (j := j) (by omega) (by omega) hst
                          have hbj : ((0 : Int32) = 1 ∧ OF Q (i + 1) (n - 1 - i) mq v j = Q j) ∨ ((0 : Int32) = 0 ∧ OF Q (i + 1) (n - 1 - i) mq v j = 0) := Or.inr ⟨rfl, by rw [hoc, if_neg (by omega), if_neg (by omega)]⟩
                          have hxj : 0 < v → x5 = nI (((mq - cu Q (i + 1) (n - 1 - i) (v - 1))) - cv Q (i + 1) (j + 1 - (i + 1)) v) := fun hv0 => by rw [hx5 hv0, cv_at (by omega)]; congr 1; split <;> omega
                          exact jp_121 0 x5 (hbj) (hxj) _ _ _ (hP.sub [0, 1, 2, 3] rfl) (hD.sub [0, 1, 2, 3] (by decide) rfl) hS (lv_sub hl [2, 3, 4, 5, 6, 7, 8, 1, 0] rfl)
                        · refine lv_iconst (v := 1) hx hb dX12_likeTakes_115 (by decide) ?_
                          refine lv_istore (lv' := [(8, .int 1), (7, .int (nI j)), (0, .ref g0), (1, .int (nI i)), (2, .int (nI n)), (3, .int (nI v)), (4, .int (nI mq)), (5, .int x5), (6, .int (nI j))]) hx hb dX12_likeTakes_116 hl (by decide) rfl (fun ls hl => ?_)
                          obtain ⟨x_34, e_34⟩ : ∃ y : Int32, y = x5 + (-1) := ⟨_, rfl⟩
                          refine lv_iinc (v := x_34) (lv' := [(5, .int x_34), (8, .int 1), (7, .int (nI j)), (0, .ref g0), (1, .int (nI i)), (2, .int (nI n)), (3, .int (nI v)), (4, .int (nI mq)), (6, .int (nI j))]) hx hb dX12_likeTakes_118 hl (k := 7) rfl (by rw [e_34]; rfl) (by decide) rfl (fun ls hl => ?_)
                          have hA : 0 < Q j := by
                            rcases Nat.eq_zero_or_pos (Q j) with q | q
                            · exact absurd (by rw [q]; decide) c_19
                            · exact q
                          have hB : v ≤ Q j := (nI_leI (by omega) (by omega)).mp c_28
                          have hDq : Q j = v := (nI_eq (by omega) (by omega)).mp c_31
                          have hE : 0 < v := by
                            rcases Nat.eq_zero_or_pos v with q | q
                            · exact absurd (by rw [q]; decide) c_32
                            · exact q
                          have hF : 0 < ((mq - cu Q (i + 1) (n - 1 - i) (v - 1))) - cv Q (i + 1) (j - (i + 1)) v := by
                            rcases Nat.eq_zero_or_pos (((mq - cu Q (i + 1) (n - 1 - i) (v - 1))) - cv Q (i + 1) (j - (i + 1)) v) with q | q
                            · exact absurd (by rw [hx5 hE, q]; decide) c_33
                            · exact q
                          have hoc := OF_case (Q := Q) (a := i + 1) (y := n - 1 - i) (m := mq) (v := v) (j := j) (by omega) (by omega) hst
                          have hbj : ((1 : Int32) = 1 ∧ OF Q (i + 1) (n - 1 - i) mq v j = Q j) ∨ ((1 : Int32) = 0 ∧ OF Q (i + 1) (n - 1 - i) mq v j = 0) := Or.inl ⟨rfl, by rw [hoc, if_neg (by omega), if_pos ⟨hDq, hE, by omega⟩, hDq]⟩
                          have hxj : 0 < v → x_34 = nI (((mq - cu Q (i + 1) (n - 1 - i) (v - 1))) - cv Q (i + 1) (j + 1 - (i + 1)) v) := fun hv0 => by rw [e_34, hx5 hv0, cv_at (by omega), if_pos hDq, show ((mq - cu Q (i + 1) (n - 1 - i) (v - 1))) - cv Q (i + 1) (j - (i + 1)) v = (((mq - cu Q (i + 1) (n - 1 - i) (v - 1))) - (cv Q (i + 1) (j - (i + 1)) v + 1)) + 1 by omega]; exact pk_m1 _
                          exact jp_121 1 x_34 (hbj) (hxj) _ _ _ (hP.sub [0, 1, 2, 3] rfl) (hD.sub [0, 1, 2, 3] (by decide) rfl) hS (lv_sub hl [3, 4, 5, 6, 7, 0, 8, 2, 1] rfl)
                  · refine lv_iconst (v := 1) hx hb dX12_likeTakes_88 (by decide) ?_
                    refine lv_goto (tgt := 93) hx hb dX12_likeTakes_89 (by decide) ?_
                    refine lv_istore (lv' := [(8, .int 1), (7, .int (nI j)), (0, .ref g0), (1, .int (nI i)), (2, .int (nI n)), (3, .int (nI v)), (4, .int (nI mq)), (5, .int x5), (6, .int (nI j))]) hx hb dX12_likeTakes_93 hl (by decide) rfl (fun ls hl => ?_)
                    refine lv_aload_n hx hb dX12_likeTakes_95 rfl (lv_at hl 2 rfl) ?_
                    refine va_get (D := (dC, dI)) (ci := 12) (v := .ref m_likePrice) (C := RX12) (T := TX12) (N := 33) hx hb hts inX12 hown hK hP 0 rfl rfl 31 (by decide) (hts _ (gw kw_748 rfl)) (fun _ h9 => h9) rfl dX12_likeTakes_96 ?_
                    refine lv_iload hx hb dX12_likeTakes_99 (lv_at hl 1 rfl) ?_
                    have h_35 : vp_in (nI j) 61 := vp_in_nI (by omega) (by omega)
                    refine va_iald hx hb hK hP 3 0 rfl rfl h_35 dX12_likeTakes_101 ?_
                    refine lv_topi (fun x_36 e_36 => ?_)
                    have h9 : x_36 = nI (Q j) := by rw [e_36, nI_clamp (by omega)]; exact hq1
                    subst h9
                    refine lv_iload_n hx hb dX12_likeTakes_102 rfl (lv_at hl 5 rfl) ?_
                    refine lv_icmp_ne (tgt := 121) hx hb dX12_likeTakes_103 (by decide) (fun c_37 => ?_) (fun c_37 => ?_)
                    · have hA : 0 < Q j := by
                        rcases Nat.eq_zero_or_pos (Q j) with q | q
                        · exact absurd (by rw [q]; decide) c_19
                        · exact q
                      have hB : Q j < v := by
                        rcases Nat.lt_or_ge (Q j) v with q | q
                        · exact q
                        · exact absurd (nI_le q (by omega)) c_28
                      have hDq : ¬ Q j = v := fun q => c_37 (by rw [q])
                      have hoc := OF_case (Q := Q) (a := i + 1) (y := n - 1 - i) (m := mq) (v := v) (j := j) (by omega) (by omega) hst
                      have hbj : ((1 : Int32) = 1 ∧ OF Q (i + 1) (n - 1 - i) mq v j = Q j) ∨ ((1 : Int32) = 0 ∧ OF Q (i + 1) (n - 1 - i) mq v j = 0) := Or.inl ⟨rfl, by rw [hoc, if_pos ⟨hA, hB⟩]⟩
                      have hxj : 0 < v → x5 = nI (((mq - cu Q (i + 1) (n - 1 - i) (v - 1))) - cv Q (i + 1) (j + 1 - (i + 1)) v) := fun hv0 => by rw [hx5 hv0, cv_at (by omega)]; congr 1; split <;> omega
                      exact jp_121 1 x5 (hbj) (hxj) _ _ _ (hP.sub [0, 1, 2, 3] rfl) (hD.sub [0, 1, 2, 3] (by decide) rfl) hS (lv_sub hl [2, 3, 4, 5, 6, 7, 8, 1, 0] rfl)
                    · refine lv_iload_n hx hb dX12_likeTakes_106 rfl (lv_at hl 5 rfl) ?_
                      refine lv_if_le (tgt := 121) hx hb dX12_likeTakes_107 (by decide) (fun c_38 => ?_) (fun c_38 => ?_)
                      · have hA : 0 < Q j := by
                          rcases Nat.eq_zero_or_pos (Q j) with q | q
                          · exact absurd (by rw [q]; decide) c_19
                          · exact q
                        have hB : Q j < v := by
                          rcases Nat.lt_or_ge (Q j) v with q | q
                          · exact q
                          · exact absurd (nI_le q (by omega)) c_28
                        have hDq : Q j = v := (nI_eq (by omega) (by omega)).mp c_37
                        have hE : v = 0 := by have := (nI_leI (a := v) (b := 0) (by omega) (by omega)).mp c_38; omega
                        have hoc := OF_case (Q := Q) (a := i + 1) (y := n - 1 - i) (m := mq) (v := v) (j := j) (by omega) (by omega) hst
                        have hbj : ((1 : Int32) = 1 ∧ OF Q (i + 1) (n - 1 - i) mq v j = Q j) ∨ ((1 : Int32) = 0 ∧ OF Q (i + 1) (n - 1 - i) mq v j = 0) := Or.inl ⟨rfl, by rw [hoc, if_pos ⟨hA, hB⟩]⟩
                        have hxj : 0 < v → x5 = nI (((mq - cu Q (i + 1) (n - 1 - i) (v - 1))) - cv Q (i + 1) (j + 1 - (i + 1)) v) := fun hv0 => by rw [hx5 hv0, cv_at (by omega)]; congr 1; split <;> omega
                        exact jp_121 1 x5 (hbj) (hxj) _ _ _ (hP.sub [0, 1, 2, 3] rfl) (hD.sub [0, 1, 2, 3] (by decide) rfl) hS (lv_sub hl [2, 3, 4, 5, 6, 7, 8, 1, 0] rfl)
                      · refine lv_iload hx hb dX12_likeTakes_110 (lv_at hl 7 rfl) ?_
                        refine lv_if_le (tgt := 121) hx hb dX12_likeTakes_112 (by decide) (fun c_39 => ?_) (fun c_39 => ?_)
                        · have hA : 0 < Q j := by
                            rcases Nat.eq_zero_or_pos (Q j) with q | q
                            · exact absurd (by rw [q]; decide) c_19
                            · exact q
                          have hB : Q j < v := by
                            rcases Nat.lt_or_ge (Q j) v with q | q
                            · exact q
                            · exact absurd (nI_le q (by omega)) c_28
                          have hDq : Q j = v := (nI_eq (by omega) (by omega)).mp c_37
                          have hE : 0 < v := by
                            rcases Nat.eq_zero_or_pos v with q | q
                            · exact absurd (by rw [q]; decide) c_38
                            · exact q
                          have hF : ((mq - cu Q (i + 1) (n - 1 - i) (v - 1))) - cv Q (i + 1) (j - (i + 1)) v = 0 := by have := c_39; rw [hx5 hE] at this; have := (nI_leI (a := ((mq - cu Q (i + 1) (n - 1 - i) (v - 1))) - cv Q (i + 1) (j - (i + 1)) v) (b := 0) (by omega) (by omega)).mp this; omega
                          have hoc := OF_case (Q := Q) (a := i + 1) (y := n - 1 - i) (m := mq) (v := v) (j := j) (by omega) (by omega) hst
                          have hbj : ((1 : Int32) = 1 ∧ OF Q (i + 1) (n - 1 - i) mq v j = Q j) ∨ ((1 : Int32) = 0 ∧ OF Q (i + 1) (n - 1 - i) mq v j = 0) := Or.inl ⟨rfl, by rw [hoc, if_pos ⟨hA, hB⟩]⟩
                          have hxj : 0 < v → x5 = nI (((mq - cu Q (i + 1) (n - 1 - i) (v - 1))) - cv Q (i + 1) (j + 1 - (i + 1)) v) := fun hv0 => by rw [hx5 hv0, cv_at (by omega)]; congr 1; split <;> omega
                          exact jp_121 1 x5 (hbj) (hxj) _ _ _ (hP.sub [0, 1, 2, 3] rfl) (hD.sub [0, 1, 2, 3] (by decide) rfl) hS (lv_sub hl [2, 3, 4, 5, 6, 7, 8, 1, 0] rfl)
                        · refine lv_iconst (v := 1) hx hb dX12_likeTakes_115 (by decide) ?_
                          refine lv_istore (lv' := [(8, .int 1), (7, .int (nI j)), (0, .ref g0), (1, .int (nI i)), (2, .int (nI n)), (3, .int (nI v)), (4, .int (nI mq)), (5, .int x5), (6, .int (nI j))]) hx hb dX12_likeTakes_116 hl (by decide) rfl (fun ls hl => ?_)
                          obtain ⟨x_40, e_40⟩ : ∃ y : Int32, y = x5 + (-1) := ⟨_, rfl⟩
                          refine lv_iinc (v := x_40) (lv' := [(5, .int x_40), (8, .int 1), (7, .int (nI j)), (0, .ref g0), (1, .int (nI i)), (2, .int (nI n)), (3, .int (nI v)), (4, .int (nI mq)), (6, .int (nI j))]) hx hb dX12_likeTakes_118 hl (k := 7) rfl (by rw [e_40]; rfl) (by decide) rfl (fun ls hl => ?_)
                          have hA : 0 < Q j := by
                            rcases Nat.eq_zero_or_pos (Q j) with q | q
                            · exact absurd (by rw [q]; decide) c_19
                            · exact q
                          have hB : Q j < v := by
                            rcases Nat.lt_or_ge (Q j) v with q | q
                            · exact q
                            · exact absurd (nI_le q (by omega)) c_28
                          have hDq : Q j = v := (nI_eq (by omega) (by omega)).mp c_37
                          have hE : 0 < v := by
                            rcases Nat.eq_zero_or_pos v with q | q
                            · exact absurd (by rw [q]; decide) c_38
                            · exact q
                          have hF : 0 < ((mq - cu Q (i + 1) (n - 1 - i) (v - 1))) - cv Q (i + 1) (j - (i + 1)) v := by
                            rcases Nat.eq_zero_or_pos (((mq - cu Q (i + 1) (n - 1 - i) (v - 1))) - cv Q (i + 1) (j - (i + 1)) v) with q | q
                            · exact absurd (by rw [hx5 hE, q]; decide) c_39
                            · exact q
                          have hoc := OF_case (Q := Q) (a := i + 1) (y := n - 1 - i) (m := mq) (v := v) (j := j) (by omega) (by omega) hst
                          have hbj : ((1 : Int32) = 1 ∧ OF Q (i + 1) (n - 1 - i) mq v j = Q j) ∨ ((1 : Int32) = 0 ∧ OF Q (i + 1) (n - 1 - i) mq v j = 0) := Or.inl ⟨rfl, by rw [hoc, if_neg (by omega), if_pos ⟨hDq, hE, by omega⟩, hDq]⟩
                          have hxj : 0 < v → x_40 = nI (((mq - cu Q (i + 1) (n - 1 - i) (v - 1))) - cv Q (i + 1) (j + 1 - (i + 1)) v) := fun hv0 => by rw [e_40, hx5 hv0, cv_at (by omega), if_pos hDq, show ((mq - cu Q (i + 1) (n - 1 - i) (v - 1))) - cv Q (i + 1) (j - (i + 1)) v = (((mq - cu Q (i + 1) (n - 1 - i) (v - 1))) - (cv Q (i + 1) (j - (i + 1)) v + 1)) + 1 by omega]; exact pk_m1 _
                          exact jp_121 1 x_40 (hbj) (hxj) _ _ _ (hP.sub [0, 1, 2, 3] rfl) (hD.sub [0, 1, 2, 3] (by decide) rfl) hS (lv_sub hl [3, 4, 5, 6, 7, 0, 8, 2, 1] rfl)
        exact lp_39 ((n - (i + 1)) + 1) (i + 1) (iI ((mq : Int) - cu Q (i + 1) (n - 1 - i) (pp - 1))) gf (Nat.lt_succ_self _) (by omega) (hx50) (fun q h1 h2 => by omega) _ _ _ (hP.sub [0, 1, 2, 3] rfl) (hD.sub [0, 1, 2, 3] (by decide) rfl) hS (lv_sub hl [1, 2, 3, 4, 5, 6, 0] rfl)
      · have hpv : pp < v := by
          rcases Nat.lt_or_ge pp v with q | q
          · exact q
          · exact absurd (nI_le q (by omega)) c_2
        refine lv_iload hx hb dX12_likeTakes_13 (lv_at hl 5 rfl) ?_
        refine lv_aload_n hx hb dX12_likeTakes_15 rfl (lv_at hl 0 rfl) ?_
        refine lv_iload_n hx hb dX12_likeTakes_16 rfl (lv_at hl 1 rfl) ?_
        refine lv_iconst (v := 1) hx hb dX12_likeTakes_17 (by decide) ?_
        refine lv_iadd hx hb dX12_likeTakes_18 ?_
        refine lv_topi (fun x_41 e_41 => ?_)
        have h9 : x_41 = nI (i + 1) := by rw [e_41, nI_1]
        subst h9
        refine lv_iload_n hx hb dX12_likeTakes_19 rfl (lv_at hl 2 rfl) ?_
        refine lv_iload hx hb dX12_likeTakes_20 (lv_at hl 6 rfl) ?_
        have hPc := hP.sub (ws' := [(g0, .inr (12, [.ref m_refused, .ref m_kind, .ref m_figure, .ref m_weight, .ref m_got, .ref m_setting, .int men, .int msy, .int mdn, .ref m_tape, .ref m_letter, .ref m_letterAt, .ref m_told, .int tp, .int mat, .int stm, .ref m_kept, .int hi, .int ki, .int crs, .ref m_price, .ref m_offer, .ref m_gets, .ref m_yes, .ref m_buys, .ref m_ends, .ref m_carried, .ref m_row, .int rm, .ref m_keptRow, .ref m_likeGets, .ref m_likePrice, .ref m_ahead])), (m_likePrice, .inl (aC 0, 61, .inl pf))]) [0, 3] rfl
        have hDc := hD.sub (ws' := [(g0, .inr (12, [.ref m_refused, .ref m_kind, .ref m_figure, .ref m_weight, .ref m_got, .ref m_setting, .int men, .int msy, .int mdn, .ref m_tape, .ref m_letter, .ref m_letterAt, .ref m_told, .int tp, .int mat, .int stm, .ref m_kept, .int hi, .int ki, .int crs, .ref m_price, .ref m_offer, .ref m_gets, .ref m_yes, .ref m_buys, .ref m_ends, .ref m_carried, .ref m_row, .int rm, .ref m_keptRow, .ref m_likeGets, .ref m_likePrice, .ref m_ahead])), (m_likePrice, .inl (aC 0, 61, .inl pf))]) [0, 3] (by decide) rfl
        have hFc := va_free (wc := [(g0, .inr (12, [.ref m_refused, .ref m_kind, .ref m_figure, .ref m_weight, .ref m_got, .ref m_setting, .int men, .int msy, .int mdn, .ref m_tape, .ref m_letter, .ref m_letterAt, .ref m_told, .int tp, .int mat, .int stm, .ref m_kept, .int hi, .int ki, .int crs, .ref m_price, .ref m_offer, .ref m_gets, .ref m_yes, .ref m_buys, .ref m_ends, .ref m_carried, .ref m_row, .int rm, .ref m_keptRow, .ref m_likeGets, .ref m_likePrice, .ref m_ahead])), (m_likePrice, .inl (aC 0, 61, .inl pf))]) hD hS hA [0, 3] rfl
        refine va_calli (va_runV (As := [.int (nI (i + 1)), .int (nI n), .int (nI pp)]) (rest := [.int (iI ((mq : Int) - cu Q (i + 1) (n - 1 - i) (pp - 1)))]) ⟨hx, hb, hml, hown, hts⟩ (c_X12_withPrice l dC dI aC H.size g0 m_refused m_kind m_figure m_weight m_got m_setting m_tape m_letter m_letterAt m_told m_kept m_price m_offer m_gets m_yes m_buys m_ends m_carried m_row m_keptRow m_likeGets m_likePrice m_ahead men msy mdn tp mat stm hi ki crs rm Q pf i n pp (hn) (hQ) (by omega)) ⟨(callB_of 3 hts (gG kw_1030) rfl rfl rfl (hts _ (gw kw_13 rfl)) (hts _ (gw kw_1027 rfl)) (by decide +kernel) ⟨Nat.le_of_ble_eq_true rfl, Nat.le_of_ble_eq_true rfl⟩), (hts _ (gw kw_1029 rfl)), (hts _ (gw ks_63 rfl))⟩ ⟨fun a U g mk q => by obtain ⟨q0, q1, qP, qK, qD, qN⟩ := q; exact ⟨q0, q1, qP, va_K.moved (u := U) (U := U.calling g mk a) (Vm.Alike.refl U.vm) qK, qD, NX.same (u := U) (U := U.calling g mk a) rfl qN⟩, va_recv hK hPc (ci := 12) (q0 := 0) rfl rfl, fun U hU hW => ⟨rfl, by rw [hU], by rw [hU]; exact hPc, va_K.moved hW.alike hK, hDc.weaken (fun _ _ _ _ => trivial), NX.warm hW hN⟩⟩ rfl rfl hl.1 rfl (lv_room (Nat.le_of_ble_eq_true rfl)) dX12_likeTakes_22 ⟨Nat.le_of_ble_eq_true rfl, Nat.le_of_ble_eq_true rfl⟩) hS (fun q _ h => hFc q h) hFc (fun x_42 u t H1 locs ht hvm hw_42 hB hz1 hk1 hS => ?_)
        obtain ⟨hP1, hK1, hD1⟩ := hB
        rw [ht] at hP1
        clear hK1
        try dsimp only at hw_42
        obtain ⟨hP, hD⟩ := va_join (wr := [(m_setting, .inl (aC 0, 5, .inl stf)), (m_likeGets, .inl (aC 0, 61, .inl gf))]) (w1 := [(g0, .inr (12, [.ref m_refused, .ref m_kind, .ref m_figure, .ref m_weight, .ref m_got, .ref m_setting, .int men, .int msy, .int mdn, .ref m_tape, .ref m_letter, .ref m_letterAt, .ref m_told, .int tp, .int mat, .int stm, .ref m_kept, .int hi, .int ki, .int crs, .ref m_price, .ref m_offer, .ref m_gets, .ref m_yes, .ref m_buys, .ref m_ends, .ref m_carried, .ref m_row, .int rm, .ref m_keptRow, .ref m_likeGets, .ref m_likePrice, .ref m_ahead])), (m_likePrice, .inl (aC 0, 61, .inl pf))]) hP hD [0, 3] [1, 2] rfl rfl (by decide) (by decide) hk1 hFc hP1 hD1
        generalize H1 = H at hP hS ⊢
        have hP : va_P (dC, dI) classes [(m_setting, .inl (aC 0, 5, .inl stf)), (m_likeGets, .inl (aC 0, 61, .inl gf)), (g0, .inr (12, [.ref m_refused, .ref m_kind, .ref m_figure, .ref m_weight, .ref m_got, .ref m_setting, .int men, .int msy, .int mdn, .ref m_tape, .ref m_letter, .ref m_letterAt, .ref m_told, .int tp, .int mat, .int stm, .ref m_kept, .int hi, .int ki, .int crs, .ref m_price, .ref m_offer, .ref m_gets, .ref m_yes, .ref m_buys, .ref m_ends, .ref m_carried, .ref m_row, .int rm, .ref m_keptRow, .ref m_likeGets, .ref m_likePrice, .ref m_ahead])), (m_likePrice, .inl (aC 0, 61, .inl pf))] H := hP
        have hD : va_D A [(m_setting, .inl (aC 0, 5, .inl stf)), (m_likeGets, .inl (aC 0, 61, .inl gf)), (g0, .inr (12, [.ref m_refused, .ref m_kind, .ref m_figure, .ref m_weight, .ref m_got, .ref m_setting, .int men, .int msy, .int mdn, .ref m_tape, .ref m_letter, .ref m_letterAt, .ref m_told, .int tp, .int mat, .int stm, .ref m_kept, .int hi, .int ki, .int crs, .ref m_price, .ref m_offer, .ref m_gets, .ref m_yes, .ref m_buys, .ref m_ends, .ref m_carried, .ref m_row, .int rm, .ref m_keptRow, .ref m_likeGets, .ref m_likePrice, .ref m_ahead])), (m_likePrice, .inl (aC 0, 61, .inl pf))] := hD
        clear hPc hDc hFc hz1 hk1 hP1 hD1 ht hvm
        refine lv_isub hx hb dX12_likeTakes_25 ?_
        refine lv_topi (fun x_43 e_43 => ?_)
        have h9 : x_43 = iI ((mq : Int) - cu Q (i + 1) (n - 1 - i) pp) := by rw [e_43, hw_42, nI_iI, iI_sub]; congr 1; have := cu_pred (Q := Q) (a := i + 1) (y := n - 1 - i) hp1; omega
        subst h9
        refine lv_istore (lv' := [(5, .int (iI ((mq : Int) - cu Q (i + 1) (n - 1 - i) pp))), (0, .ref g0), (1, .int (nI i)), (2, .int (nI n)), (3, .int (nI v)), (4, .int (nI mq)), (6, .int (nI pp))]) hx hb dX12_likeTakes_26 hl (by decide) rfl (fun ls hl => ?_)
        obtain ⟨x_44, e_44⟩ : ∃ y : Int32, y = (nI pp) + 1 := ⟨_, rfl⟩
        refine lv_iinc (v := x_44) (lv' := [(6, .int x_44), (5, .int (iI ((mq : Int) - cu Q (i + 1) (n - 1 - i) pp))), (0, .ref g0), (1, .int (nI i)), (2, .int (nI n)), (3, .int (nI v)), (4, .int (nI mq))]) hx hb dX12_likeTakes_28 hl (k := 6) rfl (by rw [e_44]; rfl) (by decide) rfl (fun ls hl => ?_)
        have h9 : x_44 = nI (pp + 1) := by rw [e_44, nI_1]
        subst h9
        refine lv_goto (tgt := 7) hx hb dX12_likeTakes_31 (by decide) ?_
        exact ih_7 (pp + 1) (by omega) (by omega) (by omega) _ _ _ (hP.sub [2, 0, 1, 3] rfl) (hD.sub [2, 0, 1, 3] (by decide) rfl) hS (lv_sub hl [2, 3, 4, 5, 6, 1, 0] rfl)
  exact lp_7 ((101 - 1) + 1) 1 (Nat.lt_succ_self _) (Nat.le_refl 1) (by omega) _ _ _ (hP.sub [0, 1, 2, 3] rfl) (hD.sub [0, 1, 2, 3] (by decide) rfl) hS (lv_sub hl [2, 3, 4, 5, 6, 1, 0] rfl)
