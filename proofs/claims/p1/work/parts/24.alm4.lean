theorem ls_no {law tie : Int32} {c n i : Nat} {f gf : Nat → Int32} (hi : i < n) (hcc : ¬ cc1 law (fun j => ask tie (FS law tie c n (n - (i + 1)) j)) c n i ≤ c)
    (hsc : ∀ j, i + 1 ≤ j → j < n → gf j = iI (FS law tie c n (n - (i + 1)) j)) (hf : f = upd gf i (-1)) : (∀ j, i ≤ j → j < n → f j = iI (FS law tie c n (n - i) j)) ∧ FS law tie c n (n - i) i = -1 := by
  refine ⟨st_no hi hcc (fun j h1 h2 => hsc j (by omega) h2) hf, ?_⟩
  rw [FS_suc hi]
  unfold STG
  rw [if_neg hcc, if_pos rfl]
theorem ls_ok {law tie : Int32} {c n i : Nat} (hi : i < n) (hcc : cc1 law (fun j => ask tie (FS law tie c n (n - (i + 1)) j)) c n i ≤ c) : ¬ FS law tie c n (n - i) i = -1 := by
  rw [FS_suc hi]
  unfold STG
  rw [if_pos hcc, if_pos rfl]
  omega

set_option maxHeartbeats 4000000 in
set_option maxRecDepth 100000 in
/-- X12_alike -/
theorem c_X12_alike (l : Launch) (dC : Nat → ClassId) (dI : Nat → Nat → Nat) (aC : Nat → ClassId) (sz : Nat) (g0 : Nat) (m_refused : Nat) (m_kind : Nat) (m_figure : Nat) (m_weight : Nat) (m_got : Nat) (m_setting : Nat) (m_tape : Nat) (m_letter : Nat) (m_letterAt : Nat) (m_told : Nat) (m_kept : Nat) (m_price : Nat) (m_offer : Nat) (m_gets : Nat) (m_yes : Nat) (m_buys : Nat) (m_ends : Nat) (m_carried : Nat) (m_row : Nat) (m_keptRow : Nat) (m_likeGets : Nat) (m_likePrice : Nat) (m_ahead : Nat) (men : Int32) (msy : Int32) (mdn : Int32) (tp : Int32) (mat : Int32) (stm : Int32) (hi : Int32) (ki : Int32) (crs : Int32) (rm : Int32) (mr : Nat → Int32) (stf : Nat → Int32) (gf : Nat → Int32) (pf : Nat → Int32) (a1 : Int32) (a2 : Int32) (a3 : Int32) (a4 : Int32) (hf : stf 3 = 0) : Met l yX12_alike (wW yX12_alike cX12_alike 8 (some .int)) ({ frames := 3, cells := 0, slots := 0, locals := 82 } : Room) (va_Pc [.ref g0, .int a1, .int a2, .int a3, .int a4] (fun U => U.heap.size = sz ∧ va_P (dC, dI) classes [(g0, .inr (12, [.ref m_refused, .ref m_kind, .ref m_figure, .ref m_weight, .ref m_got, .ref m_setting, .int men, .int msy, .int mdn, .ref m_tape, .ref m_letter, .ref m_letterAt, .ref m_told, .int tp, .int mat, .int stm, .ref m_kept, .int hi, .int ki, .int crs, .ref m_price, .ref m_offer, .ref m_gets, .ref m_yes, .ref m_buys, .ref m_ends, .ref m_carried, .ref m_row, .int rm, .ref m_keptRow, .ref m_likeGets, .ref m_likePrice, .ref m_ahead])), (m_setting, .inl (aC 0, 5, .inl stf)), (m_likeGets, .inl (aC 0, 61, .inl gf)), (m_likePrice, .inl (aC 0, 61, .inl pf)), (m_refused, .inl (aC 0, 7, .inl mr))] U.heap ∧ va_K (dC, dI) classes (TY aC) U ∧ va_D (fun _ => True) [(g0, .inr (12, [.ref m_refused, .ref m_kind, .ref m_figure, .ref m_weight, .ref m_got, .ref m_setting, .int men, .int msy, .int mdn, .ref m_tape, .ref m_letter, .ref m_letterAt, .ref m_told, .int tp, .int mat, .int stm, .ref m_kept, .int hi, .int ki, .int crs, .ref m_price, .ref m_offer, .ref m_gets, .ref m_yes, .ref m_buys, .ref m_ends, .ref m_carried, .ref m_row, .int rm, .ref m_keptRow, .ref m_likeGets, .ref m_likePrice, .ref m_ahead])), (m_setting, .inl (aC 0, 5, .inl stf)), (m_likeGets, .inl (aC 0, 61, .inl gf)), (m_likePrice, .inl (aC 0, 61, .inl pf)), (m_refused, .inl (aC 0, 7, .inl mr))] ∧ NX U)) (va_Qi (fun (r : Int32) (_ : Unit) => r = ALK stf a1 a2 a3 a4) (fun (_ : Unit) (t : State) => va_P (dC, dI) classes [] t.heap ∧ va_K (dC, dI) classes (TY aC) t ∧ va_D (va_A [(g0, .inr (12, [.ref m_refused, .ref m_kind, .ref m_figure, .ref m_weight, .ref m_got, .ref m_setting, .int men, .int msy, .int mdn, .ref m_tape, .ref m_letter, .ref m_letterAt, .ref m_told, .int tp, .int mat, .int stm, .ref m_kept, .int hi, .int ki, .int crs, .ref m_price, .ref m_offer, .ref m_gets, .ref m_yes, .ref m_buys, .ref m_ends, .ref m_carried, .ref m_row, .int rm, .ref m_keptRow, .ref m_likeGets, .ref m_likePrice, .ref m_ahead])), (m_setting, .inl (aC 0, 5, .inl stf)), (m_likeGets, .inl (aC 0, 61, .inl gf)), (m_likePrice, .inl (aC 0, 61, .inl pf)), (m_refused, .inl (aC 0, 7, .inl mr))] sz) []) (va_A [(g0, .inr (12, [.ref m_refused, .ref m_kind, .ref m_figure, .ref m_weight, .ref m_got, .ref m_setting, .int men, .int msy, .int mdn, .ref m_tape, .ref m_letter, .ref m_letterAt, .ref m_told, .int tp, .int mat, .int stm, .ref m_kept, .int hi, .int ki, .int crs, .ref m_price, .ref m_offer, .ref m_gets, .ref m_yes, .ref m_buys, .ref m_ends, .ref m_carried, .ref m_row, .int rm, .ref m_keptRow, .ref m_likeGets, .ref m_likePrice, .ref m_ahead])), (m_setting, .inl (aC 0, 5, .inl stf)), (m_likeGets, .inl (aC 0, 61, .inl gf)), (m_likePrice, .inl (aC 0, 61, .inl pf)), (m_refused, .inl (aC 0, 7, .inl mr))] sz)) 0 0 (va_A [(g0, .inr (12, [.ref m_refused, .ref m_kind, .ref m_figure, .ref m_weight, .ref m_got, .ref m_setting, .int men, .int msy, .int mdn, .ref m_tape, .ref m_letter, .ref m_letterAt, .ref m_told, .int tp, .int mat, .int stm, .ref m_kept, .int hi, .int ki, .int crs, .ref m_price, .ref m_offer, .ref m_gets, .ref m_yes, .ref m_buys, .ref m_ends, .ref m_carried, .ref m_row, .int rm, .ref m_keptRow, .ref m_likeGets, .ref m_likePrice, .ref m_ahead])), (m_setting, .inl (aC 0, 5, .inl stf)), (m_likeGets, .inl (aC 0, 61, .inl gf)), (m_likePrice, .inl (aC 0, 61, .inl pf)), (m_refused, .inl (aC 0, 7, .inl mr))] sz) := by
  refine Met.ofW (cc := cX12_alike) (maxL := 8) (ret := (some .int)) (by decide) rfl ?_
  intro p e s m args below meth c s₁ B hml hv
  obtain ⟨rfl, hsz, hP, hK, hD0, hN⟩ := hv
  have hx := B.exec
  have hb := B.bytes
  have hr := B.returns
  have hts0 := atoms_spec (ws := (wW yX12_alike cX12_alike 8 (some .int))) B.pre
  have hts : ∀ w9 ∈ lw_G, w9.before ([.ref g0, .int a1, .int a2, .int a3, .int a4] : List Value).toArray s = true := fun w9 h9 => hts0 w9 (List.mem_cons_of_mem _ h9)
  have hown : s.vm.findClass RX12 = some m.cls := findClass_of_methodNamed B.named
  have hlocks := B.notSynchronized
  subst hsz
  have hD := hD0.self (sz := s.heap.size)
  generalize hAe : va_A [(g0, .inr (12, [.ref m_refused, .ref m_kind, .ref m_figure, .ref m_weight, .ref m_got, .ref m_setting, .int men, .int msy, .int mdn, .ref m_tape, .ref m_letter, .ref m_letterAt, .ref m_told, .int tp, .int mat, .int stm, .ref m_kept, .int hi, .int ki, .int crs, .ref m_price, .ref m_offer, .ref m_gets, .ref m_yes, .ref m_buys, .ref m_ends, .ref m_carried, .ref m_row, .int rm, .ref m_keptRow, .ref m_likeGets, .ref m_likePrice, .ref m_ahead])), (m_setting, .inl (aC 0, 5, .inl stf)), (m_likeGets, .inl (aC 0, 61, .inl gf)), (m_likePrice, .inl (aC 0, 61, .inl pf)), (m_refused, .inl (aC 0, 7, .inl mr))] s.heap.size = A at hD ⊢
  have hA : ∀ q : Nat, s.heap.size ≤ q → A q := fun q h => by rw [← hAe]; exact Or.inr h
  obtain ⟨H, hHe⟩ : ∃ H : Heap, H = s.heap := ⟨_, rfl⟩
  have hS : va_S A s.heap H [] := by rw [hHe]; exact va_S.rf
  have hP : va_P (dC, dI) classes [(g0, .inr (12, [.ref m_refused, .ref m_kind, .ref m_figure, .ref m_weight, .ref m_got, .ref m_setting, .int men, .int msy, .int mdn, .ref m_tape, .ref m_letter, .ref m_letterAt, .ref m_told, .int tp, .int mat, .int stm, .ref m_kept, .int hi, .int ki, .int crs, .ref m_price, .ref m_offer, .ref m_gets, .ref m_yes, .ref m_buys, .ref m_ends, .ref m_carried, .ref m_row, .int rm, .ref m_keptRow, .ref m_likeGets, .ref m_likePrice, .ref m_ahead])), (m_setting, .inl (aC 0, 5, .inl stf)), (m_likeGets, .inl (aC 0, 61, .inl gf)), (m_likePrice, .inl (aC 0, 61, .inl pf)), (m_refused, .inl (aC 0, 7, .inl mr))] H := by rw [hHe]; exact hP
  have hl := lv_entry ([.ref g0, .int a1, .int a2, .int a3, .int a4]) (n := 8) (Nat.le_of_ble_eq_true rfl)
  rw [lg_entry_eq]
  generalize (lg_sl ([.ref g0, .int a1, .int a2, .int a3, .int a4]) ++ List.replicate (8 - (lg_sl ([.ref g0, .int a1, .int a2, .int a3, .int a4])).length) Slot.unset).toArray = ls at hl ⊢
  have hl : lv_has ls 8 [(0, .ref g0), (1, .int a1), (2, .int a2), (3, .int a3), (4, .int a4)] := hl
  rw [← hHe]
  refine lv_iload_n hx hb dX12_alike_0 rfl (lv_at hl 1 rfl) ?_
  refine lv_iconst (v := 1) hx hb dX12_alike_1 (by decide) ?_
  refine lv_icmp_lt (tgt := 13) hx hb dX12_alike_2 (by decide) (fun c_1 => ?_) (fun c_1 => ?_)
  · refine lv_bipush (v := -4) hx hb dX12_alike_13 (by decide) ?_
    refine lv_goto (tgt := 41) hx hb dX12_alike_15 (by decide) ?_
    refine lv_istore (lv' := [(5, .int (-4)), (0, .ref g0), (1, .int a1), (2, .int a2), (3, .int a3), (4, .int a4)]) hx hb dX12_alike_41 hl (by decide) rfl (fun ls hl => ?_)
    refine lv_iload hx hb dX12_alike_43 (lv_at hl 0 rfl) ?_
    refine lv_if_eq (tgt := 55) hx hb dX12_alike_45 (by decide) (fun c_2 => ?_) (fun c_2 => ?_)
    · exact absurd c_2 (by decide)
    · refine lv_aload_n hx hb dX12_alike_48 rfl (lv_at hl 1 rfl) ?_
      refine lv_iload hx hb dX12_alike_49 (lv_at hl 0 rfl) ?_
      have hPc := hP.sub (ws' := [(g0, .inr (12, [.ref m_refused, .ref m_kind, .ref m_figure, .ref m_weight, .ref m_got, .ref m_setting, .int men, .int msy, .int mdn, .ref m_tape, .ref m_letter, .ref m_letterAt, .ref m_told, .int tp, .int mat, .int stm, .ref m_kept, .int hi, .int ki, .int crs, .ref m_price, .ref m_offer, .ref m_gets, .ref m_yes, .ref m_buys, .ref m_ends, .ref m_carried, .ref m_row, .int rm, .ref m_keptRow, .ref m_likeGets, .ref m_likePrice, .ref m_ahead])), (m_refused, .inl (aC 0, 7, .inl mr))]) [0, 4] rfl
      have hDc := hD.sub (ws' := [(g0, .inr (12, [.ref m_refused, .ref m_kind, .ref m_figure, .ref m_weight, .ref m_got, .ref m_setting, .int men, .int msy, .int mdn, .ref m_tape, .ref m_letter, .ref m_letterAt, .ref m_told, .int tp, .int mat, .int stm, .ref m_kept, .int hi, .int ki, .int crs, .ref m_price, .ref m_offer, .ref m_gets, .ref m_yes, .ref m_buys, .ref m_ends, .ref m_carried, .ref m_row, .int rm, .ref m_keptRow, .ref m_likeGets, .ref m_likePrice, .ref m_ahead])), (m_refused, .inl (aC 0, 7, .inl mr))]) [0, 4] (by decide) rfl
      have hFc := va_free (wc := [(g0, .inr (12, [.ref m_refused, .ref m_kind, .ref m_figure, .ref m_weight, .ref m_got, .ref m_setting, .int men, .int msy, .int mdn, .ref m_tape, .ref m_letter, .ref m_letterAt, .ref m_told, .int tp, .int mat, .int stm, .ref m_kept, .int hi, .int ki, .int crs, .ref m_price, .ref m_offer, .ref m_gets, .ref m_yes, .ref m_buys, .ref m_ends, .ref m_carried, .ref m_row, .int rm, .ref m_keptRow, .ref m_likeGets, .ref m_likePrice, .ref m_ahead])), (m_refused, .inl (aC 0, 7, .inl mr))]) hD hS hA [0, 4] rfl
      refine va_calli (va_runV (As := [.int (-4)]) (rest := []) ⟨hx, hb, hml, hown, hts⟩ (c_X12_lower l dC dI aC H.size g0 m_refused m_kind m_figure m_weight m_got m_setting m_tape m_letter m_letterAt m_told m_kept m_price m_offer m_gets m_yes m_buys m_ends m_carried m_row m_keptRow m_likeGets m_likePrice m_ahead men msy mdn tp mat stm hi ki crs rm (-4) 4 mr (by decide) (by unfold vp_in; decide)) ⟨(callB_of 1 hts (gG kw_973) rfl rfl rfl (hts _ (gw kw_13 rfl)) (hts _ (gw kw_970 rfl)) (by decide +kernel) ⟨Nat.le_of_ble_eq_true rfl, Nat.le_of_ble_eq_true rfl⟩), (hts _ (gw kw_972 rfl)), (hts _ (gw ks_57 rfl))⟩ ⟨fun a U g mk q => by obtain ⟨q0, q1, qP, qK, qD, qN⟩ := q; exact ⟨q0, q1, qP, va_K.moved (u := U) (U := U.calling g mk a) (Vm.Alike.refl U.vm) qK, qD, NX.same (u := U) (U := U.calling g mk a) rfl qN⟩, va_recv hK hPc (ci := 12) (q0 := 0) rfl rfl, fun U hU hW => ⟨rfl, by rw [hU], by rw [hU]; exact hPc, va_K.moved hW.alike hK, hDc.weaken (fun _ _ _ _ => trivial), NX.warm hW hN⟩⟩ rfl rfl hl.1 rfl (lv_room (Nat.le_of_ble_eq_true rfl)) dX12_alike_51 ⟨Nat.le_of_ble_eq_true rfl, Nat.le_of_ble_eq_true rfl⟩) hS (fun q _ h => hFc q h) hFc (fun x_3 u t H1 locs ht hvm hw_3 hB hz1 hk1 hS => ?_)
      obtain ⟨u_4, rfl⟩ : ∃ z, z = u := ⟨_, rfl⟩
      obtain ⟨hP1, hK1, hD1⟩ := hB
      rw [ht] at hP1
      clear hK1
      try dsimp only at hw_3
      obtain ⟨hP, hD⟩ := va_join (wr := [(m_setting, .inl (aC 0, 5, .inl stf)), (m_likeGets, .inl (aC 0, 61, .inl gf)), (m_likePrice, .inl (aC 0, 61, .inl pf))]) (w1 := [(g0, .inr (12, [.ref m_refused, .ref m_kind, .ref m_figure, .ref m_weight, .ref m_got, .ref m_setting, .int men, .int msy, .int mdn, .ref m_tape, .ref m_letter, .ref m_letterAt, .ref m_told, .int tp, .int mat, .int stm, .ref m_kept, .int hi, .int ki, .int crs, .ref m_price, .ref m_offer, .ref m_gets, .ref m_yes, .ref m_buys, .ref m_ends, .ref m_carried, .ref m_row, .int rm, .ref m_keptRow, .ref m_likeGets, .ref m_likePrice, .ref m_ahead])), (m_refused, .inl (aC 0, 7, .inl u_4))]) hP hD [0, 4] [1, 2, 3] rfl rfl (by decide) (by decide) hk1 hFc hP1 hD1
      generalize H1 = H at hP hS ⊢
      have hP : va_P (dC, dI) classes [(m_setting, .inl (aC 0, 5, .inl stf)), (m_likeGets, .inl (aC 0, 61, .inl gf)), (m_likePrice, .inl (aC 0, 61, .inl pf)), (g0, .inr (12, [.ref m_refused, .ref m_kind, .ref m_figure, .ref m_weight, .ref m_got, .ref m_setting, .int men, .int msy, .int mdn, .ref m_tape, .ref m_letter, .ref m_letterAt, .ref m_told, .int tp, .int mat, .int stm, .ref m_kept, .int hi, .int ki, .int crs, .ref m_price, .ref m_offer, .ref m_gets, .ref m_yes, .ref m_buys, .ref m_ends, .ref m_carried, .ref m_row, .int rm, .ref m_keptRow, .ref m_likeGets, .ref m_likePrice, .ref m_ahead])), (m_refused, .inl (aC 0, 7, .inl u_4))] H := hP
      have hD : va_D A [(m_setting, .inl (aC 0, 5, .inl stf)), (m_likeGets, .inl (aC 0, 61, .inl gf)), (m_likePrice, .inl (aC 0, 61, .inl pf)), (g0, .inr (12, [.ref m_refused, .ref m_kind, .ref m_figure, .ref m_weight, .ref m_got, .ref m_setting, .int men, .int msy, .int mdn, .ref m_tape, .ref m_letter, .ref m_letterAt, .ref m_told, .int tp, .int mat, .int stm, .ref m_kept, .int hi, .int ki, .int crs, .ref m_price, .ref m_offer, .ref m_gets, .ref m_yes, .ref m_buys, .ref m_ends, .ref m_carried, .ref m_row, .int rm, .ref m_keptRow, .ref m_likeGets, .ref m_likePrice, .ref m_ahead])), (m_refused, .inl (aC 0, 7, .inl u_4))] := hD
      clear hPc hDc hFc hz1 hk1 hP1 hD1 ht hvm
      obtain ⟨hv9, hv8⟩ := hw_3
      have hP9 := hP.sub (ws' := []) [] rfl
      have hD9 := hD.sub (ws' := []) [] (by decide) rfl
      refine W.widen (k := 0) (n := 0) (by omega) (by omega) ?_
      exact W.iret (v := x_3) hx hb hr (fun t ht hW => ⟨⟨x_3, (), rfl, by rw [hv9, alk_4 (Or.inl c_1)]; rfl, by rw [ht]; exact hP9, va_K.moved hW.alike hK, hD9⟩, hS.F ht⟩) hS.2.2 dX12_alike_54
  · refine lv_iload_n hx hb dX12_alike_5 rfl (lv_at hl 2 rfl) ?_
    refine lv_if_lt (tgt := 13) hx hb dX12_alike_6 (by decide) (fun c_5 => ?_) (fun c_5 => ?_)
    · refine lv_bipush (v := -4) hx hb dX12_alike_13 (by decide) ?_
      refine lv_goto (tgt := 41) hx hb dX12_alike_15 (by decide) ?_
      refine lv_istore (lv' := [(5, .int (-4)), (0, .ref g0), (1, .int a1), (2, .int a2), (3, .int a3), (4, .int a4)]) hx hb dX12_alike_41 hl (by decide) rfl (fun ls hl => ?_)
      refine lv_iload hx hb dX12_alike_43 (lv_at hl 0 rfl) ?_
      refine lv_if_eq (tgt := 55) hx hb dX12_alike_45 (by decide) (fun c_6 => ?_) (fun c_6 => ?_)
      · exact absurd c_6 (by decide)
      · refine lv_aload_n hx hb dX12_alike_48 rfl (lv_at hl 1 rfl) ?_
        refine lv_iload hx hb dX12_alike_49 (lv_at hl 0 rfl) ?_
        have hPc := hP.sub (ws' := [(g0, .inr (12, [.ref m_refused, .ref m_kind, .ref m_figure, .ref m_weight, .ref m_got, .ref m_setting, .int men, .int msy, .int mdn, .ref m_tape, .ref m_letter, .ref m_letterAt, .ref m_told, .int tp, .int mat, .int stm, .ref m_kept, .int hi, .int ki, .int crs, .ref m_price, .ref m_offer, .ref m_gets, .ref m_yes, .ref m_buys, .ref m_ends, .ref m_carried, .ref m_row, .int rm, .ref m_keptRow, .ref m_likeGets, .ref m_likePrice, .ref m_ahead])), (m_refused, .inl (aC 0, 7, .inl mr))]) [0, 4] rfl
        have hDc := hD.sub (ws' := [(g0, .inr (12, [.ref m_refused, .ref m_kind, .ref m_figure, .ref m_weight, .ref m_got, .ref m_setting, .int men, .int msy, .int mdn, .ref m_tape, .ref m_letter, .ref m_letterAt, .ref m_told, .int tp, .int mat, .int stm, .ref m_kept, .int hi, .int ki, .int crs, .ref m_price, .ref m_offer, .ref m_gets, .ref m_yes, .ref m_buys, .ref m_ends, .ref m_carried, .ref m_row, .int rm, .ref m_keptRow, .ref m_likeGets, .ref m_likePrice, .ref m_ahead])), (m_refused, .inl (aC 0, 7, .inl mr))]) [0, 4] (by decide) rfl
        have hFc := va_free (wc := [(g0, .inr (12, [.ref m_refused, .ref m_kind, .ref m_figure, .ref m_weight, .ref m_got, .ref m_setting, .int men, .int msy, .int mdn, .ref m_tape, .ref m_letter, .ref m_letterAt, .ref m_told, .int tp, .int mat, .int stm, .ref m_kept, .int hi, .int ki, .int crs, .ref m_price, .ref m_offer, .ref m_gets, .ref m_yes, .ref m_buys, .ref m_ends, .ref m_carried, .ref m_row, .int rm, .ref m_keptRow, .ref m_likeGets, .ref m_likePrice, .ref m_ahead])), (m_refused, .inl (aC 0, 7, .inl mr))]) hD hS hA [0, 4] rfl
        refine va_calli (va_runV (As := [.int (-4)]) (rest := []) ⟨hx, hb, hml, hown, hts⟩ (c_X12_lower l dC dI aC H.size g0 m_refused m_kind m_figure m_weight m_got m_setting m_tape m_letter m_letterAt m_told m_kept m_price m_offer m_gets m_yes m_buys m_ends m_carried m_row m_keptRow m_likeGets m_likePrice m_ahead men msy mdn tp mat stm hi ki crs rm (-4) 4 mr (by decide) (by unfold vp_in; decide)) ⟨(callB_of 1 hts (gG kw_973) rfl rfl rfl (hts _ (gw kw_13 rfl)) (hts _ (gw kw_970 rfl)) (by decide +kernel) ⟨Nat.le_of_ble_eq_true rfl, Nat.le_of_ble_eq_true rfl⟩), (hts _ (gw kw_972 rfl)), (hts _ (gw ks_57 rfl))⟩ ⟨fun a U g mk q => by obtain ⟨q0, q1, qP, qK, qD, qN⟩ := q; exact ⟨q0, q1, qP, va_K.moved (u := U) (U := U.calling g mk a) (Vm.Alike.refl U.vm) qK, qD, NX.same (u := U) (U := U.calling g mk a) rfl qN⟩, va_recv hK hPc (ci := 12) (q0 := 0) rfl rfl, fun U hU hW => ⟨rfl, by rw [hU], by rw [hU]; exact hPc, va_K.moved hW.alike hK, hDc.weaken (fun _ _ _ _ => trivial), NX.warm hW hN⟩⟩ rfl rfl hl.1 rfl (lv_room (Nat.le_of_ble_eq_true rfl)) dX12_alike_51 ⟨Nat.le_of_ble_eq_true rfl, Nat.le_of_ble_eq_true rfl⟩) hS (fun q _ h => hFc q h) hFc (fun x_7 u t H1 locs ht hvm hw_7 hB hz1 hk1 hS => ?_)
        obtain ⟨u_8, rfl⟩ : ∃ z, z = u := ⟨_, rfl⟩
        obtain ⟨hP1, hK1, hD1⟩ := hB
        rw [ht] at hP1
        clear hK1
        try dsimp only at hw_7
        obtain ⟨hP, hD⟩ := va_join (wr := [(m_setting, .inl (aC 0, 5, .inl stf)), (m_likeGets, .inl (aC 0, 61, .inl gf)), (m_likePrice, .inl (aC 0, 61, .inl pf))]) (w1 := [(g0, .inr (12, [.ref m_refused, .ref m_kind, .ref m_figure, .ref m_weight, .ref m_got, .ref m_setting, .int men, .int msy, .int mdn, .ref m_tape, .ref m_letter, .ref m_letterAt, .ref m_told, .int tp, .int mat, .int stm, .ref m_kept, .int hi, .int ki, .int crs, .ref m_price, .ref m_offer, .ref m_gets, .ref m_yes, .ref m_buys, .ref m_ends, .ref m_carried, .ref m_row, .int rm, .ref m_keptRow, .ref m_likeGets, .ref m_likePrice, .ref m_ahead])), (m_refused, .inl (aC 0, 7, .inl u_8))]) hP hD [0, 4] [1, 2, 3] rfl rfl (by decide) (by decide) hk1 hFc hP1 hD1
        generalize H1 = H at hP hS ⊢
        have hP : va_P (dC, dI) classes [(m_setting, .inl (aC 0, 5, .inl stf)), (m_likeGets, .inl (aC 0, 61, .inl gf)), (m_likePrice, .inl (aC 0, 61, .inl pf)), (g0, .inr (12, [.ref m_refused, .ref m_kind, .ref m_figure, .ref m_weight, .ref m_got, .ref m_setting, .int men, .int msy, .int mdn, .ref m_tape, .ref m_letter, .ref m_letterAt, .ref m_told, .int tp, .int mat, .int stm, .ref m_kept, .int hi, .int ki, .int crs, .ref m_price, .ref m_offer, .ref m_gets, .ref m_yes, .ref m_buys, .ref m_ends, .ref m_carried, .ref m_row, .int rm, .ref m_keptRow, .ref m_likeGets, .ref m_likePrice, .ref m_ahead])), (m_refused, .inl (aC 0, 7, .inl u_8))] H := hP
        have hD : va_D A [(m_setting, .inl (aC 0, 5, .inl stf)), (m_likeGets, .inl (aC 0, 61, .inl gf)), (m_likePrice, .inl (aC 0, 61, .inl pf)), (g0, .inr (12, [.ref m_refused, .ref m_kind, .ref m_figure, .ref m_weight, .ref m_got, .ref m_setting, .int men, .int msy, .int mdn, .ref m_tape, .ref m_letter, .ref m_letterAt, .ref m_told, .int tp, .int mat, .int stm, .ref m_kept, .int hi, .int ki, .int crs, .ref m_price, .ref m_offer, .ref m_gets, .ref m_yes, .ref m_buys, .ref m_ends, .ref m_carried, .ref m_row, .int rm, .ref m_keptRow, .ref m_likeGets, .ref m_likePrice, .ref m_ahead])), (m_refused, .inl (aC 0, 7, .inl u_8))] := hD
        clear hPc hDc hFc hz1 hk1 hP1 hD1 ht hvm
        obtain ⟨hv9, hv8⟩ := hw_7
        have hP9 := hP.sub (ws' := []) [] rfl
        have hD9 := hD.sub (ws' := []) [] (by decide) rfl
        refine W.widen (k := 0) (n := 0) (by omega) (by omega) ?_
        exact W.iret (v := x_7) hx hb hr (fun t ht hW => ⟨⟨x_7, (), rfl, by rw [hv9, alk_4 (Or.inr (Or.inl c_5))]; rfl, by rw [ht]; exact hP9, va_K.moved hW.alike hK, hD9⟩, hS.F ht⟩) hS.2.2 dX12_alike_54
    · refine lv_iload_n hx hb dX12_alike_9 rfl (lv_at hl 3 rfl) ?_
      refine lv_if_ge (tgt := 18) hx hb dX12_alike_10 (by decide) (fun c_9 => ?_) (fun c_9 => ?_)
      · refine lv_iload_n hx hb dX12_alike_18 rfl (lv_at hl 1 rfl) ?_
        refine lv_bipush (v := 60) hx hb dX12_alike_19 (by decide) ?_
        refine lv_icmp_gt (tgt := 35) hx hb dX12_alike_21 (by decide) (fun c_10 => ?_) (fun c_10 => ?_)
        · refine lv_bipush (v := -6) hx hb dX12_alike_35 (by decide) ?_
          refine lv_goto (tgt := 41) hx hb dX12_alike_37 (by decide) ?_
          refine lv_istore (lv' := [(5, .int (-6)), (0, .ref g0), (1, .int a1), (2, .int a2), (3, .int a3), (4, .int a4)]) hx hb dX12_alike_41 hl (by decide) rfl (fun ls hl => ?_)
          refine lv_iload hx hb dX12_alike_43 (lv_at hl 0 rfl) ?_
          refine lv_if_eq (tgt := 55) hx hb dX12_alike_45 (by decide) (fun c_11 => ?_) (fun c_11 => ?_)
          · exact absurd c_11 (by decide)
          · refine lv_aload_n hx hb dX12_alike_48 rfl (lv_at hl 1 rfl) ?_
            refine lv_iload hx hb dX12_alike_49 (lv_at hl 0 rfl) ?_
            have hPc := hP.sub (ws' := [(g0, .inr (12, [.ref m_refused, .ref m_kind, .ref m_figure, .ref m_weight, .ref m_got, .ref m_setting, .int men, .int msy, .int mdn, .ref m_tape, .ref m_letter, .ref m_letterAt, .ref m_told, .int tp, .int mat, .int stm, .ref m_kept, .int hi, .int ki, .int crs, .ref m_price, .ref m_offer, .ref m_gets, .ref m_yes, .ref m_buys, .ref m_ends, .ref m_carried, .ref m_row, .int rm, .ref m_keptRow, .ref m_likeGets, .ref m_likePrice, .ref m_ahead])), (m_refused, .inl (aC 0, 7, .inl mr))]) [0, 4] rfl
            have hDc := hD.sub (ws' := [(g0, .inr (12, [.ref m_refused, .ref m_kind, .ref m_figure, .ref m_weight, .ref m_got, .ref m_setting, .int men, .int msy, .int mdn, .ref m_tape, .ref m_letter, .ref m_letterAt, .ref m_told, .int tp, .int mat, .int stm, .ref m_kept, .int hi, .int ki, .int crs, .ref m_price, .ref m_offer, .ref m_gets, .ref m_yes, .ref m_buys, .ref m_ends, .ref m_carried, .ref m_row, .int rm, .ref m_keptRow, .ref m_likeGets, .ref m_likePrice, .ref m_ahead])), (m_refused, .inl (aC 0, 7, .inl mr))]) [0, 4] (by decide) rfl
            have hFc := va_free (wc := [(g0, .inr (12, [.ref m_refused, .ref m_kind, .ref m_figure, .ref m_weight, .ref m_got, .ref m_setting, .int men, .int msy, .int mdn, .ref m_tape, .ref m_letter, .ref m_letterAt, .ref m_told, .int tp, .int mat, .int stm, .ref m_kept, .int hi, .int ki, .int crs, .ref m_price, .ref m_offer, .ref m_gets, .ref m_yes, .ref m_buys, .ref m_ends, .ref m_carried, .ref m_row, .int rm, .ref m_keptRow, .ref m_likeGets, .ref m_likePrice, .ref m_ahead])), (m_refused, .inl (aC 0, 7, .inl mr))]) hD hS hA [0, 4] rfl
            refine va_calli (va_runV (As := [.int (-6)]) (rest := []) ⟨hx, hb, hml, hown, hts⟩ (c_X12_lower l dC dI aC H.size g0 m_refused m_kind m_figure m_weight m_got m_setting m_tape m_letter m_letterAt m_told m_kept m_price m_offer m_gets m_yes m_buys m_ends m_carried m_row m_keptRow m_likeGets m_likePrice m_ahead men msy mdn tp mat stm hi ki crs rm (-6) 6 mr (by decide) (by unfold vp_in; decide)) ⟨(callB_of 1 hts (gG kw_973) rfl rfl rfl (hts _ (gw kw_13 rfl)) (hts _ (gw kw_970 rfl)) (by decide +kernel) ⟨Nat.le_of_ble_eq_true rfl, Nat.le_of_ble_eq_true rfl⟩), (hts _ (gw kw_972 rfl)), (hts _ (gw ks_57 rfl))⟩ ⟨fun a U g mk q => by obtain ⟨q0, q1, qP, qK, qD, qN⟩ := q; exact ⟨q0, q1, qP, va_K.moved (u := U) (U := U.calling g mk a) (Vm.Alike.refl U.vm) qK, qD, NX.same (u := U) (U := U.calling g mk a) rfl qN⟩, va_recv hK hPc (ci := 12) (q0 := 0) rfl rfl, fun U hU hW => ⟨rfl, by rw [hU], by rw [hU]; exact hPc, va_K.moved hW.alike hK, hDc.weaken (fun _ _ _ _ => trivial), NX.warm hW hN⟩⟩ rfl rfl hl.1 rfl (lv_room (Nat.le_of_ble_eq_true rfl)) dX12_alike_51 ⟨Nat.le_of_ble_eq_true rfl, Nat.le_of_ble_eq_true rfl⟩) hS (fun q _ h => hFc q h) hFc (fun x_12 u t H1 locs ht hvm hw_12 hB hz1 hk1 hS => ?_)
            obtain ⟨u_13, rfl⟩ : ∃ z, z = u := ⟨_, rfl⟩
            obtain ⟨hP1, hK1, hD1⟩ := hB
            rw [ht] at hP1
            clear hK1
            try dsimp only at hw_12
            obtain ⟨hP, hD⟩ := va_join (wr := [(m_setting, .inl (aC 0, 5, .inl stf)), (m_likeGets, .inl (aC 0, 61, .inl gf)), (m_likePrice, .inl (aC 0, 61, .inl pf))]) (w1 := [(g0, .inr (12, [.ref m_refused, .ref m_kind, .ref m_figure, .ref m_weight, .ref m_got, .ref m_setting, .int men, .int msy, .int mdn, .ref m_tape, .ref m_letter, .ref m_letterAt, .ref m_told, .int tp, .int mat, .int stm, .ref m_kept, .int hi, .int ki, .int crs, .ref m_price, .ref m_offer, .ref m_gets, .ref m_yes, .ref m_buys, .ref m_ends, .ref m_carried, .ref m_row, .int rm, .ref m_keptRow, .ref m_likeGets, .ref m_likePrice, .ref m_ahead])), (m_refused, .inl (aC 0, 7, .inl u_13))]) hP hD [0, 4] [1, 2, 3] rfl rfl (by decide) (by decide) hk1 hFc hP1 hD1
            generalize H1 = H at hP hS ⊢
            have hP : va_P (dC, dI) classes [(m_setting, .inl (aC 0, 5, .inl stf)), (m_likeGets, .inl (aC 0, 61, .inl gf)), (m_likePrice, .inl (aC 0, 61, .inl pf)), (g0, .inr (12, [.ref m_refused, .ref m_kind, .ref m_figure, .ref m_weight, .ref m_got, .ref m_setting, .int men, .int msy, .int mdn, .ref m_tape, .ref m_letter, .ref m_letterAt, .ref m_told, .int tp, .int mat, .int stm, .ref m_kept, .int hi, .int ki, .int crs, .ref m_price, .ref m_offer, .ref m_gets, .ref m_yes, .ref m_buys, .ref m_ends, .ref m_carried, .ref m_row, .int rm, .ref m_keptRow, .ref m_likeGets, .ref m_likePrice, .ref m_ahead])), (m_refused, .inl (aC 0, 7, .inl u_13))] H := hP
            have hD : va_D A [(m_setting, .inl (aC 0, 5, .inl stf)), (m_likeGets, .inl (aC 0, 61, .inl gf)), (m_likePrice, .inl (aC 0, 61, .inl pf)), (g0, .inr (12, [.ref m_refused, .ref m_kind, .ref m_figure, .ref m_weight, .ref m_got, .ref m_setting, .int men, .int msy, .int mdn, .ref m_tape, .ref m_letter, .ref m_letterAt, .ref m_told, .int tp, .int mat, .int stm, .ref m_kept, .int hi, .int ki, .int crs, .ref m_price, .ref m_offer, .ref m_gets, .ref m_yes, .ref m_buys, .ref m_ends, .ref m_carried, .ref m_row, .int rm, .ref m_keptRow, .ref m_likeGets, .ref m_likePrice, .ref m_ahead])), (m_refused, .inl (aC 0, 7, .inl u_13))] := hD
            clear hPc hDc hFc hz1 hk1 hP1 hD1 ht hvm
            obtain ⟨hv9, hv8⟩ := hw_12
            have hP9 := hP.sub (ws' := []) [] rfl
            have hD9 := hD.sub (ws' := []) [] (by decide) rfl
            refine W.widen (k := 0) (n := 0) (by omega) (by omega) ?_
            exact W.iret (v := x_12) hx hb hr (fun t ht hW => ⟨⟨x_12, (), rfl, by rw [hv9, alk_6 c_1 c_5 c_9 (Or.inl c_10)]; rfl, by rw [ht]; exact hP9, va_K.moved hW.alike hK, hD9⟩, hS.F ht⟩) hS.2.2 dX12_alike_54
        · refine lv_iload_n hx hb dX12_alike_24 rfl (lv_at hl 2 rfl) ?_
          refine lv_bipush (v := 99) hx hb dX12_alike_25 (by decide) ?_
          refine lv_icmp_gt (tgt := 35) hx hb dX12_alike_27 (by decide) (fun c_14 => ?_) (fun c_14 => ?_)
          · refine lv_bipush (v := -6) hx hb dX12_alike_35 (by decide) ?_
            refine lv_goto (tgt := 41) hx hb dX12_alike_37 (by decide) ?_
            refine lv_istore (lv' := [(5, .int (-6)), (0, .ref g0), (1, .int a1), (2, .int a2), (3, .int a3), (4, .int a4)]) hx hb dX12_alike_41 hl (by decide) rfl (fun ls hl => ?_)
            refine lv_iload hx hb dX12_alike_43 (lv_at hl 0 rfl) ?_
            refine lv_if_eq (tgt := 55) hx hb dX12_alike_45 (by decide) (fun c_15 => ?_) (fun c_15 => ?_)
            · exact absurd c_15 (by decide)
            · refine lv_aload_n hx hb dX12_alike_48 rfl (lv_at hl 1 rfl) ?_
              refine lv_iload hx hb dX12_alike_49 (lv_at hl 0 rfl) ?_
              have hPc := hP.sub (ws' := [(g0, .inr (12, [.ref m_refused, .ref m_kind, .ref m_figure, .ref m_weight, .ref m_got, .ref m_setting, .int men, .int msy, .int mdn, .ref m_tape, .ref m_letter, .ref m_letterAt, .ref m_told, .int tp, .int mat, .int stm, .ref m_kept, .int hi, .int ki, .int crs, .ref m_price, .ref m_offer, .ref m_gets, .ref m_yes, .ref m_buys, .ref m_ends, .ref m_carried, .ref m_row, .int rm, .ref m_keptRow, .ref m_likeGets, .ref m_likePrice, .ref m_ahead])), (m_refused, .inl (aC 0, 7, .inl mr))]) [0, 4] rfl
              have hDc := hD.sub (ws' := [(g0, .inr (12, [.ref m_refused, .ref m_kind, .ref m_figure, .ref m_weight, .ref m_got, .ref m_setting, .int men, .int msy, .int mdn, .ref m_tape, .ref m_letter, .ref m_letterAt, .ref m_told, .int tp, .int mat, .int stm, .ref m_kept, .int hi, .int ki, .int crs, .ref m_price, .ref m_offer, .ref m_gets, .ref m_yes, .ref m_buys, .ref m_ends, .ref m_carried, .ref m_row, .int rm, .ref m_keptRow, .ref m_likeGets, .ref m_likePrice, .ref m_ahead])), (m_refused, .inl (aC 0, 7, .inl mr))]) [0, 4] (by decide) rfl
              have hFc := va_free (wc := [(g0, .inr (12, [.ref m_refused, .ref m_kind, .ref m_figure, .ref m_weight, .ref m_got, .ref m_setting, .int men, .int msy, .int mdn, .ref m_tape, .ref m_letter, .ref m_letterAt, .ref m_told, .int tp, .int mat, .int stm, .ref m_kept, .int hi, .int ki, .int crs, .ref m_price, .ref m_offer, .ref m_gets, .ref m_yes, .ref m_buys, .ref m_ends, .ref m_carried, .ref m_row, .int rm, .ref m_keptRow, .ref m_likeGets, .ref m_likePrice, .ref m_ahead])), (m_refused, .inl (aC 0, 7, .inl mr))]) hD hS hA [0, 4] rfl
              refine va_calli (va_runV (As := [.int (-6)]) (rest := []) ⟨hx, hb, hml, hown, hts⟩ (c_X12_lower l dC dI aC H.size g0 m_refused m_kind m_figure m_weight m_got m_setting m_tape m_letter m_letterAt m_told m_kept m_price m_offer m_gets m_yes m_buys m_ends m_carried m_row m_keptRow m_likeGets m_likePrice m_ahead men msy mdn tp mat stm hi ki crs rm (-6) 6 mr (by decide) (by unfold vp_in; decide)) ⟨(callB_of 1 hts (gG kw_973) rfl rfl rfl (hts _ (gw kw_13 rfl)) (hts _ (gw kw_970 rfl)) (by decide +kernel) ⟨Nat.le_of_ble_eq_true rfl, Nat.le_of_ble_eq_true rfl⟩), (hts _ (gw kw_972 rfl)), (hts _ (gw ks_57 rfl))⟩ ⟨fun a U g mk q => by obtain ⟨q0, q1, qP, qK, qD, qN⟩ := q; exact ⟨q0, q1, qP, va_K.moved (u := U) (U := U.calling g mk a) (Vm.Alike.refl U.vm) qK, qD, NX.same (u := U) (U := U.calling g mk a) rfl qN⟩, va_recv hK hPc (ci := 12) (q0 := 0) rfl rfl, fun U hU hW => ⟨rfl, by rw [hU], by rw [hU]; exact hPc, va_K.moved hW.alike hK, hDc.weaken (fun _ _ _ _ => trivial), NX.warm hW hN⟩⟩ rfl rfl hl.1 rfl (lv_room (Nat.le_of_ble_eq_true rfl)) dX12_alike_51 ⟨Nat.le_of_ble_eq_true rfl, Nat.le_of_ble_eq_true rfl⟩) hS (fun q _ h => hFc q h) hFc (fun x_16 u t H1 locs ht hvm hw_16 hB hz1 hk1 hS => ?_)
              obtain ⟨u_17, rfl⟩ : ∃ z, z = u := ⟨_, rfl⟩
              obtain ⟨hP1, hK1, hD1⟩ := hB
              rw [ht] at hP1
              clear hK1
              try dsimp only at hw_16
              obtain ⟨hP, hD⟩ := va_join (wr := [(m_setting, .inl (aC 0, 5, .inl stf)), (m_likeGets, .inl (aC 0, 61, .inl gf)), (m_likePrice, .inl (aC 0, 61, .inl pf))]) (w1 := [(g0, .inr (12, [.ref m_refused, .ref m_kind, .ref m_figure, .ref m_weight, .ref m_got, .ref m_setting, .int men, .int msy, .int mdn, .ref m_tape, .ref m_letter, .ref m_letterAt, .ref m_told, .int tp, .int mat, .int stm, .ref m_kept, .int hi, .int ki, .int crs, .ref m_price, .ref m_offer, .ref m_gets, .ref m_yes, .ref m_buys, .ref m_ends, .ref m_carried, .ref m_row, .int rm, .ref m_keptRow, .ref m_likeGets, .ref m_likePrice, .ref m_ahead])), (m_refused, .inl (aC 0, 7, .inl u_17))]) hP hD [0, 4] [1, 2, 3] rfl rfl (by decide) (by decide) hk1 hFc hP1 hD1
              generalize H1 = H at hP hS ⊢
              have hP : va_P (dC, dI) classes [(m_setting, .inl (aC 0, 5, .inl stf)), (m_likeGets, .inl (aC 0, 61, .inl gf)), (m_likePrice, .inl (aC 0, 61, .inl pf)), (g0, .inr (12, [.ref m_refused, .ref m_kind, .ref m_figure, .ref m_weight, .ref m_got, .ref m_setting, .int men, .int msy, .int mdn, .ref m_tape, .ref m_letter, .ref m_letterAt, .ref m_told, .int tp, .int mat, .int stm, .ref m_kept, .int hi, .int ki, .int crs, .ref m_price, .ref m_offer, .ref m_gets, .ref m_yes, .ref m_buys, .ref m_ends, .ref m_carried, .ref m_row, .int rm, .ref m_keptRow, .ref m_likeGets, .ref m_likePrice, .ref m_ahead])), (m_refused, .inl (aC 0, 7, .inl u_17))] H := hP
              have hD : va_D A [(m_setting, .inl (aC 0, 5, .inl stf)), (m_likeGets, .inl (aC 0, 61, .inl gf)), (m_likePrice, .inl (aC 0, 61, .inl pf)), (g0, .inr (12, [.ref m_refused, .ref m_kind, .ref m_figure, .ref m_weight, .ref m_got, .ref m_setting, .int men, .int msy, .int mdn, .ref m_tape, .ref m_letter, .ref m_letterAt, .ref m_told, .int tp, .int mat, .int stm, .ref m_kept, .int hi, .int ki, .int crs, .ref m_price, .ref m_offer, .ref m_gets, .ref m_yes, .ref m_buys, .ref m_ends, .ref m_carried, .ref m_row, .int rm, .ref m_keptRow, .ref m_likeGets, .ref m_likePrice, .ref m_ahead])), (m_refused, .inl (aC 0, 7, .inl u_17))] := hD
              clear hPc hDc hFc hz1 hk1 hP1 hD1 ht hvm
              obtain ⟨hv9, hv8⟩ := hw_16
              have hP9 := hP.sub (ws' := []) [] rfl
              have hD9 := hD.sub (ws' := []) [] (by decide) rfl
              refine W.widen (k := 0) (n := 0) (by omega) (by omega) ?_
              exact W.iret (v := x_16) hx hb hr (fun t ht hW => ⟨⟨x_16, (), rfl, by rw [hv9, alk_6 c_1 c_5 c_9 (Or.inr (Or.inl c_14))]; rfl, by rw [ht]; exact hP9, va_K.moved hW.alike hK, hD9⟩, hS.F ht⟩) hS.2.2 dX12_alike_54
          · refine lv_iload_n hx hb dX12_alike_30 rfl (lv_at hl 3 rfl) ?_
            refine lv_iload_n hx hb dX12_alike_31 rfl (lv_at hl 1 rfl) ?_
            refine lv_icmp_lt (tgt := 40) hx hb dX12_alike_32 (by decide) (fun c_18 => ?_) (fun c_18 => ?_)
            · refine lv_iconst (v := 0) hx hb dX12_alike_40 (by decide) ?_
              refine lv_istore (lv' := [(5, .int 0), (0, .ref g0), (1, .int a1), (2, .int a2), (3, .int a3), (4, .int a4)]) hx hb dX12_alike_41 hl (by decide) rfl (fun ls hl => ?_)
              refine lv_iload hx hb dX12_alike_43 (lv_at hl 0 rfl) ?_
              refine lv_if_eq (tgt := 55) hx hb dX12_alike_45 (by decide) (fun c_19 => ?_) (fun c_19 => ?_)
              · obtain ⟨n, hn2, hn3⟩ := al_of (x := a1) (M := 60) (N := 60) rfl (lt1_0 c_1) c_10
                subst hn3
                have hn1 := al_n c_1 hn2
                obtain ⟨cq, hc, hc3⟩ := al_of (x := a2) (M := 99) (N := 99) rfl c_5 c_14
                subst hc3
                obtain ⟨k, hk1, hk3⟩ := nI_of (x := a3) (Int32.not_lt.mpr c_9)
                subst hk3
                have hk : k < n := (nI_ltI hk1 (by omega)).mp c_18
                refine lv_iconst (v := 0) hx hb dX12_alike_55 (by decide) ?_
                refine lv_istore (lv' := [(6, .int 0), (5, .int 0), (0, .ref g0), (1, .int (nI n)), (2, .int (nI cq)), (3, .int (nI k)), (4, .int a4)]) hx hb dX12_alike_56 hl (by decide) rfl (fun ls hl => ?_)
                refine lv_iload_n hx hb dX12_alike_58 rfl (lv_at hl 3 rfl) ?_
                refine lv_iconst (v := 1) hx hb dX12_alike_59 (by decide) ?_
                refine lv_isub hx hb dX12_alike_60 ?_
                refine lv_topi (fun x_20 e_20 => ?_)
                refine lv_istore (lv' := [(7, .int x_20), (6, .int 0), (5, .int 0), (0, .ref g0), (1, .int (nI n)), (2, .int (nI cq)), (3, .int (nI k)), (4, .int a4)]) hx hb dX12_alike_61 hl (by decide) rfl (fun ls hl => ?_)
                have lp_63 : ∀ (fu : Nat) (kk : Nat) (x6 : Int32) (x7 : Int32) (gc : Nat → Int32) (pc : Nat → Int32) (hfu : kk < fu) (hkk : kk ≤ n) (hx7 : x7 = iI ((kk : Int) - 1)) (hgc : ∀ j, kk ≤ j → j < n → gc j = iI (FS (stf 1) (stf 2) cq n (n - kk) j)) (his : kk < n → (x6 = 1 ∧ ¬ FS (stf 1) (stf 2) cq n (n - kk) kk = -1) ∨ (x6 = 0 ∧ FS (stf 1) (stf 2) cq n (n - kk) kk = -1)) (H : Heap) (locs : List Loc) (ls : Array Slot), va_P (dC, dI) classes [(g0, .inr (12, [.ref m_refused, .ref m_kind, .ref m_figure, .ref m_weight, .ref m_got, .ref m_setting, .int men, .int msy, .int mdn, .ref m_tape, .ref m_letter, .ref m_letterAt, .ref m_told, .int tp, .int mat, .int stm, .ref m_kept, .int hi, .int ki, .int crs, .ref m_price, .ref m_offer, .ref m_gets, .ref m_yes, .ref m_buys, .ref m_ends, .ref m_carried, .ref m_row, .int rm, .ref m_keptRow, .ref m_likeGets, .ref m_likePrice, .ref m_ahead])), (m_setting, .inl (aC 0, 5, .inl stf)), (m_likeGets, .inl (aC 0, 61, .inl gc)), (m_likePrice, .inl (aC 0, 61, .inl pc)), (m_refused, .inl (aC 0, 7, .inl mr))] H → va_D A [(g0, .inr (12, [.ref m_refused, .ref m_kind, .ref m_figure, .ref m_weight, .ref m_got, .ref m_setting, .int men, .int msy, .int mdn, .ref m_tape, .ref m_letter, .ref m_letterAt, .ref m_told, .int tp, .int mat, .int stm, .ref m_kept, .int hi, .int ki, .int crs, .ref m_price, .ref m_offer, .ref m_gets, .ref m_yes, .ref m_buys, .ref m_ends, .ref m_carried, .ref m_row, .int rm, .ref m_keptRow, .ref m_likeGets, .ref m_likePrice, .ref m_ahead])), (m_setting, .inl (aC 0, 5, .inl stf)), (m_likeGets, .inl (aC 0, 61, .inl gc)), (m_likePrice, .inl (aC 0, 61, .inl pc)), (m_refused, .inl (aC 0, 7, .inl mr))] → va_S A s.heap H locs → lv_has ls 8 [(0, .ref g0), (1, .int (nI n)), (2, .int (nI cq)), (3, .int (nI k)), (4, .int a4), (6, .int x6), (7, .int x7)] → W p l e (headSpec (wW yX12_alike cX12_alike 8 (some .int)) ({ frames := 3, cells := 0, slots := 0, locals := 82 } : Room)).room s m ([.ref g0, .int (nI n), .int (nI cq), .int (nI k), .int a4] : List Value).toArray below meth c H locs 0 0 (MQ below (va_Qi (fun (r : Int32) (_ : Unit) => r = ALK stf (nI n) (nI cq) (nI k) a4) (fun (_ : Unit) (t : State) => va_P (dC, dI) classes [] t.heap ∧ va_K (dC, dI) classes (TY aC) t ∧ va_D A []) A) ([.ref g0, .int (nI n), .int (nI cq), .int (nI k), .int a4] : List Value).toArray s 0 0 A) (F0 m 63 ls []) := by
                  intro fu
                  induction fu with
                  | zero => intro kk x6 x7 gc pc hfu; exact absurd hfu (Nat.not_lt_zero _)
                  | succ fu ih_63 =>
                    intro kk x6 x7 gc pc hfu hkk hx7 hgc his H locs ls hP hD hS hl
                    refine lv_iload hx hb dX12_alike_63 (lv_at hl 6 rfl) ?_
                    refine lv_if_lt (tgt := 97) hx hb dX12_alike_65 (by decide) (fun c_21 => ?_) (fun c_21 => ?_)
                    · have hk0 : kk = 0 := by
                        rcases Nat.eq_zero_or_pos kk with q | q
                        · exact q
                        · exfalso
                          have h8 := c_21
                          rw [hx7, ← iI_0, iI_lt (by unfold sm; omega) sm0] at h8
                          omega
                      subst hk0
                      have his0 := his (by omega)
                      rw [Nat.sub_zero] at his0
                      have hgc0 : ∀ j, j < n → gc j = iI (FS (stf 1) (stf 2) cq n n j) := fun j hj => by have := hgc j (Nat.zero_le j) hj; rw [Nat.sub_zero] at this; exact this
                      refine lv_iload hx hb dX12_alike_97 (lv_at hl 4 rfl) ?_
                      refine lv_if_eq (tgt := 115) hx hb dX12_alike_99 (by decide) (fun c_22 => ?_) (fun c_22 => ?_)
                      · refine lv_aload_n hx hb dX12_alike_115 rfl (lv_at hl 0 rfl) ?_
                        refine va_get (D := (dC, dI)) (ci := 12) (v := .ref m_likeGets) (C := RX12) (T := TX12) (N := 33) hx hb hts inX12 hown hK hP 0 rfl rfl 30 (by decide) (hts _ (gw kw_747 rfl)) (fun _ h9 => h9) rfl dX12_alike_116 ?_
                        refine lv_iload_n hx hb dX12_alike_119 rfl (lv_at hl 3 rfl) ?_
                        have h_23 : vp_in (nI k) 61 := vp_in_nI (by omega) (by omega)
                        refine va_iald hx hb hK hP 2 0 rfl rfl h_23 dX12_alike_120 ?_
                        refine lv_topi (fun x_24 e_24 => ?_)
                        have hP9 := hP.sub (ws' := []) [] rfl
                        have hD9 := hD.sub (ws' := []) [] (by decide) rfl
                        refine W.widen (k := 0) (n := 0) (by omega) (by omega) ?_
                        exact W.iret (v := x_24) hx hb hr (fun t ht hW => ⟨⟨x_24, (), rfl, by rw [ALK_in hn1 hn2 hc hk, if_pos c_22, e_24, nI_clamp (by omega)]; exact hgc0 k hk, by rw [ht]; exact hP9, va_K.moved hW.alike hK, hD9⟩, hS.F ht⟩) hS.2.2 dX12_alike_121
                      · refine lv_iload hx hb dX12_alike_102 (lv_at hl 5 rfl) ?_
                        refine lv_if_eq (tgt := 111) hx hb dX12_alike_104 (by decide) (fun c_25 => ?_) (fun c_25 => ?_)
                        · refine lv_iconst (v := 0) hx hb dX12_alike_111 (by decide) ?_
                          refine lv_goto (tgt := 121) hx hb dX12_alike_112 (by decide) ?_
                          have hP9 := hP.sub (ws' := []) [] rfl
                          have hD9 := hD.sub (ws' := []) [] (by decide) rfl
                          refine W.widen (k := 0) (n := 0) (by omega) (by omega) ?_
                          exact W.iret (v := 0) hx hb hr (fun t ht hW => ⟨⟨0, (), rfl, by rw [ALK_in hn1 hn2 hc hk, if_neg c_22]; rcases his0 with ⟨q1, q2⟩ | ⟨q1, q2⟩ <;> first | exact absurd (q1.symm.trans c_25) (by decide) | rw [if_pos q2], by rw [ht]; exact hP9, va_K.moved hW.alike hK, hD9⟩, hS.F ht⟩) hS.2.2 dX12_alike_121
                        · refine lv_iconst (v := 1) hx hb dX12_alike_107 (by decide) ?_
                          refine lv_goto (tgt := 121) hx hb dX12_alike_108 (by decide) ?_
                          have hP9 := hP.sub (ws' := []) [] rfl
                          have hD9 := hD.sub (ws' := []) [] (by decide) rfl
                          refine W.widen (k := 0) (n := 0) (by omega) (by omega) ?_
                          exact W.iret (v := 1) hx hb hr (fun t ht hW => ⟨⟨1, (), rfl, by rw [ALK_in hn1 hn2 hc hk, if_neg c_22]; rcases his0 with ⟨q1, q2⟩ | ⟨q1, q2⟩ <;> first | exact absurd q1 c_25 | rw [if_neg q2], by rw [ht]; exact hP9, va_K.moved hW.alike hK, hD9⟩, hS.F ht⟩) hS.2.2 dX12_alike_121
                    · have hk9 : 1 ≤ kk := by
                        rcases Nat.eq_zero_or_pos kk with q | q
                        · subst q; exact absurd (by rw [hx7]; decide) c_21
                        · exact q
                      obtain ⟨i, hki⟩ : ∃ i, kk = i + 1 := ⟨kk - 1, by omega⟩
                      subst hki
                      have h9 : x7 = nI i := by rw [hx7, nI_iI]; congr 1; omega
                      subst h9
                      refine lv_aload_n hx hb dX12_alike_68 rfl (lv_at hl 0 rfl) ?_
                      refine lv_iload hx hb dX12_alike_69 (lv_at hl 6 rfl) ?_
                      refine lv_iload_n hx hb dX12_alike_71 rfl (lv_at hl 1 rfl) ?_
                      refine lv_iload_n hx hb dX12_alike_72 rfl (lv_at hl 2 rfl) ?_
                      have hPc := hP.sub (ws' := [(g0, .inr (12, [.ref m_refused, .ref m_kind, .ref m_figure, .ref m_weight, .ref m_got, .ref m_setting, .int men, .int msy, .int mdn, .ref m_tape, .ref m_letter, .ref m_letterAt, .ref m_told, .int tp, .int mat, .int stm, .ref m_kept, .int hi, .int ki, .int crs, .ref m_price, .ref m_offer, .ref m_gets, .ref m_yes, .ref m_buys, .ref m_ends, .ref m_carried, .ref m_row, .int rm, .ref m_keptRow, .ref m_likeGets, .ref m_likePrice, .ref m_ahead])), (m_setting, .inl (aC 0, 5, .inl stf)), (m_likeGets, .inl (aC 0, 61, .inl gc)), (m_likePrice, .inl (aC 0, 61, .inl pc))]) [0, 1, 2, 3] rfl
                      have hDc := hD.sub (ws' := [(g0, .inr (12, [.ref m_refused, .ref m_kind, .ref m_figure, .ref m_weight, .ref m_got, .ref m_setting, .int men, .int msy, .int mdn, .ref m_tape, .ref m_letter, .ref m_letterAt, .ref m_told, .int tp, .int mat, .int stm, .ref m_kept, .int hi, .int ki, .int crs, .ref m_price, .ref m_offer, .ref m_gets, .ref m_yes, .ref m_buys, .ref m_ends, .ref m_carried, .ref m_row, .int rm, .ref m_keptRow, .ref m_likeGets, .ref m_likePrice, .ref m_ahead])), (m_setting, .inl (aC 0, 5, .inl stf)), (m_likeGets, .inl (aC 0, 61, .inl gc)), (m_likePrice, .inl (aC 0, 61, .inl pc))]) [0, 1, 2, 3] (by decide) rfl
                      have hFc := va_free (wc := [(g0, .inr (12, [.ref m_refused, .ref m_kind, .ref m_figure, .ref m_weight, .ref m_got, .ref m_setting, .int men, .int msy, .int mdn, .ref m_tape, .ref m_letter, .ref m_letterAt, .ref m_told, .int tp, .int mat, .int stm, .ref m_kept, .int hi, .int ki, .int crs, .ref m_price, .ref m_offer, .ref m_gets, .ref m_yes, .ref m_buys, .ref m_ends, .ref m_carried, .ref m_row, .int rm, .ref m_keptRow, .ref m_likeGets, .ref m_likePrice, .ref m_ahead])), (m_setting, .inl (aC 0, 5, .inl stf)), (m_likeGets, .inl (aC 0, 61, .inl gc)), (m_likePrice, .inl (aC 0, 61, .inl pc))]) hD hS hA [0, 1, 2, 3] rfl
                      refine va_calli (va_runV (As := [.int (nI i), .int (nI n), .int (nI cq)]) (rest := []) ⟨hx, hb, hml, hown, hts⟩ (c_X12_likeSays l dC dI aC H.size g0 m_refused m_kind m_figure m_weight m_got m_setting m_tape m_letter m_letterAt m_told m_kept m_price m_offer m_gets m_yes m_buys m_ends m_carried m_row m_keptRow m_likeGets m_likePrice m_ahead men msy mdn tp mat stm hi ki crs rm stf gc pc (FS (stf 1) (stf 2) cq n (n - (i + 1))) i n cq (by omega) (hc) (fun j q1 q2 => ⟨hgc j (by omega) q2, FS_rng hc _ (by omega) j (by omega) q2⟩) (hf)) ⟨(callB_of 3 hts (gG kw_1022) rfl rfl rfl (hts _ (gw kw_13 rfl)) (hts _ (gw kw_1019 rfl)) (by decide +kernel) ⟨Nat.le_of_ble_eq_true rfl, Nat.le_of_ble_eq_true rfl⟩), (hts _ (gw kw_1021 rfl)), (hts _ (gw ks_61 rfl))⟩ ⟨fun a U g mk q => by obtain ⟨q0, q1, qP, qK, qD, qN⟩ := q; exact ⟨q0, q1, qP, va_K.moved (u := U) (U := U.calling g mk a) (Vm.Alike.refl U.vm) qK, qD, NX.same (u := U) (U := U.calling g mk a) rfl qN⟩, va_recv hK hPc (ci := 12) (q0 := 0) rfl rfl, fun U hU hW => ⟨rfl, by rw [hU], by rw [hU]; exact hPc, va_K.moved hW.alike hK, hDc.weaken (fun _ _ _ _ => trivial), NX.warm hW hN⟩⟩ rfl rfl hl.1 rfl (lv_room (Nat.le_of_ble_eq_true rfl)) dX12_alike_73 ⟨Nat.le_of_ble_eq_true rfl, Nat.le_of_ble_eq_true rfl⟩) hS (fun q _ h => hFc q h) hFc (fun x_26 u t H1 locs ht hvm hw_26 hB hz1 hk1 hS => ?_)
                      obtain ⟨u_27, u_28⟩ := u
                      obtain ⟨hP1, hK1, hD1⟩ := hB
                      rw [ht] at hP1
                      clear hK1
                      try dsimp only at hw_26
                      obtain ⟨hP, hD⟩ := va_join (wr := [(m_refused, .inl (aC 0, 7, .inl mr))]) (w1 := [(g0, .inr (12, [.ref m_refused, .ref m_kind, .ref m_figure, .ref m_weight, .ref m_got, .ref m_setting, .int men, .int msy, .int mdn, .ref m_tape, .ref m_letter, .ref m_letterAt, .ref m_told, .int tp, .int mat, .int stm, .ref m_kept, .int hi, .int ki, .int crs, .ref m_price, .ref m_offer, .ref m_gets, .ref m_yes, .ref m_buys, .ref m_ends, .ref m_carried, .ref m_row, .int rm, .ref m_keptRow, .ref m_likeGets, .ref m_likePrice, .ref m_ahead])), (m_setting, .inl (aC 0, 5, .inl stf)), (m_likeGets, .inl (aC 0, 61, .inl u_27)), (m_likePrice, .inl (aC 0, 61, .inl u_28))]) hP hD [0, 1, 2, 3] [4] rfl rfl (by decide) (by decide) hk1 hFc hP1 hD1
                      generalize H1 = H at hP hS ⊢
                      have hP : va_P (dC, dI) classes [(m_refused, .inl (aC 0, 7, .inl mr)), (g0, .inr (12, [.ref m_refused, .ref m_kind, .ref m_figure, .ref m_weight, .ref m_got, .ref m_setting, .int men, .int msy, .int mdn, .ref m_tape, .ref m_letter, .ref m_letterAt, .ref m_told, .int tp, .int mat, .int stm, .ref m_kept, .int hi, .int ki, .int crs, .ref m_price, .ref m_offer, .ref m_gets, .ref m_yes, .ref m_buys, .ref m_ends, .ref m_carried, .ref m_row, .int rm, .ref m_keptRow, .ref m_likeGets, .ref m_likePrice, .ref m_ahead])), (m_setting, .inl (aC 0, 5, .inl stf)), (m_likeGets, .inl (aC 0, 61, .inl u_27)), (m_likePrice, .inl (aC 0, 61, .inl u_28))] H := hP
                      have hD : va_D A [(m_refused, .inl (aC 0, 7, .inl mr)), (g0, .inr (12, [.ref m_refused, .ref m_kind, .ref m_figure, .ref m_weight, .ref m_got, .ref m_setting, .int men, .int msy, .int mdn, .ref m_tape, .ref m_letter, .ref m_letterAt, .ref m_told, .int tp, .int mat, .int stm, .ref m_kept, .int hi, .int ki, .int crs, .ref m_price, .ref m_offer, .ref m_gets, .ref m_yes, .ref m_buys, .ref m_ends, .ref m_carried, .ref m_row, .int rm, .ref m_keptRow, .ref m_likeGets, .ref m_likePrice, .ref m_ahead])), (m_setting, .inl (aC 0, 5, .inl stf)), (m_likeGets, .inl (aC 0, 61, .inl u_27)), (m_likePrice, .inl (aC 0, 61, .inl u_28))] := hD
                      clear hPc hDc hFc hz1 hk1 hP1 hD1 ht hvm
                      have hls := hw_26
                      have hb01 : x_26 = 1 ∨ x_26 = 0 := hls.imp (fun h => h.1) (fun h => h.1)
                      refine lv_istore (lv' := [(6, .int x_26), (0, .ref g0), (1, .int (nI n)), (2, .int (nI cq)), (3, .int (nI k)), (4, .int a4), (7, .int (nI i))]) hx hb dX12_alike_76 hl (by decide) rfl (fun ls hl => ?_)
                      refine lv_iload hx hb dX12_alike_78 (lv_at hl 0 rfl) ?_
                      refine lv_if_ne (tgt := 91) hx hb dX12_alike_80 (by decide) (fun c_29 => ?_) (fun c_29 => ?_)
                      · obtain ⟨hl1, hl2, hl3⟩ := hls.resolve_right (fun h => c_29 h.1)
                        have hb2 : ∀ j, i ≤ j → j < n → u_27 j = iI (FS (stf 1) (stf 2) cq n (n - i) j) := fun j q1 q2 => by rw [FS_suc (by omega)]; exact hl3 j q1 q2
                        have hb3 : i < n → (x_26 = 1 ∧ ¬ FS (stf 1) (stf 2) cq n (n - i) i = -1) ∨ (x_26 = 0 ∧ FS (stf 1) (stf 2) cq n (n - i) i = -1) := fun h => Or.inl ⟨hl1, ls_ok h hl2⟩
                        obtain ⟨x_30, e_30⟩ : ∃ y : Int32, y = (nI i) + (-1) := ⟨_, rfl⟩
                        refine lv_iinc (v := x_30) (lv' := [(7, .int x_30), (6, .int x_26), (0, .ref g0), (1, .int (nI n)), (2, .int (nI cq)), (3, .int (nI k)), (4, .int a4)]) hx hb dX12_alike_91 hl (k := 6) rfl (by rw [e_30]; rfl) (by decide) rfl (fun ls hl => ?_)
                        refine lv_goto (tgt := 63) hx hb dX12_alike_94 (by decide) ?_
                        exact ih_63 i x_26 x_30 u_27 u_28 (by omega) (by omega) (by rw [e_30, nI_iI, show (-1 : Int32) = iI (-1) from rfl, iI_add]; rfl) (hb2) (hb3) _ _ _ (hP.sub [1, 2, 3, 4, 0] rfl) (hD.sub [1, 2, 3, 4, 0] (by decide) rfl) hS (lv_sub hl [2, 3, 4, 5, 6, 1, 0] rfl)
                      · refine lv_aload_n hx hb dX12_alike_83 rfl (lv_at hl 1 rfl) ?_
                        refine va_get (D := (dC, dI)) (ci := 12) (v := .ref m_likeGets) (C := RX12) (T := TX12) (N := 33) hx hb hts inX12 hown hK hP 1 rfl rfl 30 (by decide) (hts _ (gw kw_747 rfl)) (fun _ h9 => h9) rfl dX12_alike_84 ?_
                        refine lv_iload hx hb dX12_alike_87 (lv_at hl 6 rfl) ?_
                        refine lv_iconst (v := -1) hx hb dX12_alike_89 (by decide) ?_
                        have h_31 : vp_in (nI i) 61 := vp_in_nI (by omega) (by omega)
                        refine va_iast hx hb hK hP hD hS 3 0 rfl rfl h_31 dX12_alike_90 (fun H locs hP hD hS => ?_)
                        obtain ⟨f_32, e_f_32⟩ : ∃ y : Nat → Int32, y = upd u_27 (nI i : Int32).toNatClampNeg (-1) := ⟨_, rfl⟩
                        have hP : va_P (dC, dI) classes [(m_refused, .inl (aC 0, 7, .inl mr)), (g0, .inr (12, [.ref m_refused, .ref m_kind, .ref m_figure, .ref m_weight, .ref m_got, .ref m_setting, .int men, .int msy, .int mdn, .ref m_tape, .ref m_letter, .ref m_letterAt, .ref m_told, .int tp, .int mat, .int stm, .ref m_kept, .int hi, .int ki, .int crs, .ref m_price, .ref m_offer, .ref m_gets, .ref m_yes, .ref m_buys, .ref m_ends, .ref m_carried, .ref m_row, .int rm, .ref m_keptRow, .ref m_likeGets, .ref m_likePrice, .ref m_ahead])), (m_setting, .inl (aC 0, 5, .inl stf)), (m_likeGets, .inl (aC 0, 61, .inl f_32)), (m_likePrice, .inl (aC 0, 61, .inl u_28))] H := by rw [e_f_32]; exact hP
                        have hD : va_D A [(m_refused, .inl (aC 0, 7, .inl mr)), (g0, .inr (12, [.ref m_refused, .ref m_kind, .ref m_figure, .ref m_weight, .ref m_got, .ref m_setting, .int men, .int msy, .int mdn, .ref m_tape, .ref m_letter, .ref m_letterAt, .ref m_told, .int tp, .int mat, .int stm, .ref m_kept, .int hi, .int ki, .int crs, .ref m_price, .ref m_offer, .ref m_gets, .ref m_yes, .ref m_buys, .ref m_ends, .ref m_carried, .ref m_row, .int rm, .ref m_keptRow, .ref m_likeGets, .ref m_likePrice, .ref m_ahead])), (m_setting, .inl (aC 0, 5, .inl stf)), (m_likeGets, .inl (aC 0, 61, .inl f_32)), (m_likePrice, .inl (aC 0, 61, .inl u_28))] := by rw [e_f_32]; exact hD
                        obtain ⟨hl1, hl2, hl3⟩ := hls.resolve_left (fun h => absurd (h.1.symm.trans c_29) (by decide))
                        have hb9 := ls_no (f := f_32) (by omega) hl2 (fun j q1 q2 => hgc j q1 q2) (by rw [e_f_32, nI_clamp (by omega), hl3])
                        have hb2 := hb9.1
                        have hb3 : i < n → (x_26 = 1 ∧ ¬ FS (stf 1) (stf 2) cq n (n - i) i = -1) ∨ (x_26 = 0 ∧ FS (stf 1) (stf 2) cq n (n - i) i = -1) := fun h => Or.inr ⟨hl1, hb9.2⟩
                        obtain ⟨x_33, e_33⟩ : ∃ y : Int32, y = (nI i) + (-1) := ⟨_, rfl⟩
                        refine lv_iinc (v := x_33) (lv' := [(7, .int x_33), (6, .int x_26), (0, .ref g0), (1, .int (nI n)), (2, .int (nI cq)), (3, .int (nI k)), (4, .int a4)]) hx hb dX12_alike_91 hl (k := 6) rfl (by rw [e_33]; rfl) (by decide) rfl (fun ls hl => ?_)
                        refine lv_goto (tgt := 63) hx hb dX12_alike_94 (by decide) ?_
                        exact ih_63 i x_26 x_33 f_32 u_28 (by omega) (by omega) (by rw [e_33, nI_iI, show (-1 : Int32) = iI (-1) from rfl, iI_add]; rfl) (hb2) (hb3) _ _ _ (hP.sub [1, 2, 3, 4, 0] rfl) (hD.sub [1, 2, 3, 4, 0] (by decide) rfl) hS (lv_sub hl [2, 3, 4, 5, 6, 1, 0] rfl)
                exact lp_63 (n + 1) n 0 x_20 gf pf (Nat.lt_succ_self _) (Nat.le_refl n) (by rw [e_20, nI_iI, ← iI_1, iI_sub]) (fun j q1 q2 => by omega) (fun h => by omega) _ _ _ (hP.sub [0, 1, 2, 3, 4] rfl) (hD.sub [0, 1, 2, 3, 4] (by decide) rfl) hS (lv_sub hl [3, 4, 5, 6, 7, 1, 0] rfl)
              · exact absurd rfl c_19
            · refine lv_bipush (v := -6) hx hb dX12_alike_35 (by decide) ?_
              refine lv_goto (tgt := 41) hx hb dX12_alike_37 (by decide) ?_
              refine lv_istore (lv' := [(5, .int (-6)), (0, .ref g0), (1, .int a1), (2, .int a2), (3, .int a3), (4, .int a4)]) hx hb dX12_alike_41 hl (by decide) rfl (fun ls hl => ?_)
              refine lv_iload hx hb dX12_alike_43 (lv_at hl 0 rfl) ?_
              refine lv_if_eq (tgt := 55) hx hb dX12_alike_45 (by decide) (fun c_34 => ?_) (fun c_34 => ?_)
              · exact absurd c_34 (by decide)
              · refine lv_aload_n hx hb dX12_alike_48 rfl (lv_at hl 1 rfl) ?_
                refine lv_iload hx hb dX12_alike_49 (lv_at hl 0 rfl) ?_
                have hPc := hP.sub (ws' := [(g0, .inr (12, [.ref m_refused, .ref m_kind, .ref m_figure, .ref m_weight, .ref m_got, .ref m_setting, .int men, .int msy, .int mdn, .ref m_tape, .ref m_letter, .ref m_letterAt, .ref m_told, .int tp, .int mat, .int stm, .ref m_kept, .int hi, .int ki, .int crs, .ref m_price, .ref m_offer, .ref m_gets, .ref m_yes, .ref m_buys, .ref m_ends, .ref m_carried, .ref m_row, .int rm, .ref m_keptRow, .ref m_likeGets, .ref m_likePrice, .ref m_ahead])), (m_refused, .inl (aC 0, 7, .inl mr))]) [0, 4] rfl
                have hDc := hD.sub (ws' := [(g0, .inr (12, [.ref m_refused, .ref m_kind, .ref m_figure, .ref m_weight, .ref m_got, .ref m_setting, .int men, .int msy, .int mdn, .ref m_tape, .ref m_letter, .ref m_letterAt, .ref m_told, .int tp, .int mat, .int stm, .ref m_kept, .int hi, .int ki, .int crs, .ref m_price, .ref m_offer, .ref m_gets, .ref m_yes, .ref m_buys, .ref m_ends, .ref m_carried, .ref m_row, .int rm, .ref m_keptRow, .ref m_likeGets, .ref m_likePrice, .ref m_ahead])), (m_refused, .inl (aC 0, 7, .inl mr))]) [0, 4] (by decide) rfl
                have hFc := va_free (wc := [(g0, .inr (12, [.ref m_refused, .ref m_kind, .ref m_figure, .ref m_weight, .ref m_got, .ref m_setting, .int men, .int msy, .int mdn, .ref m_tape, .ref m_letter, .ref m_letterAt, .ref m_told, .int tp, .int mat, .int stm, .ref m_kept, .int hi, .int ki, .int crs, .ref m_price, .ref m_offer, .ref m_gets, .ref m_yes, .ref m_buys, .ref m_ends, .ref m_carried, .ref m_row, .int rm, .ref m_keptRow, .ref m_likeGets, .ref m_likePrice, .ref m_ahead])), (m_refused, .inl (aC 0, 7, .inl mr))]) hD hS hA [0, 4] rfl
                refine va_calli (va_runV (As := [.int (-6)]) (rest := []) ⟨hx, hb, hml, hown, hts⟩ (c_X12_lower l dC dI aC H.size g0 m_refused m_kind m_figure m_weight m_got m_setting m_tape m_letter m_letterAt m_told m_kept m_price m_offer m_gets m_yes m_buys m_ends m_carried m_row m_keptRow m_likeGets m_likePrice m_ahead men msy mdn tp mat stm hi ki crs rm (-6) 6 mr (by decide) (by unfold vp_in; decide)) ⟨(callB_of 1 hts (gG kw_973) rfl rfl rfl (hts _ (gw kw_13 rfl)) (hts _ (gw kw_970 rfl)) (by decide +kernel) ⟨Nat.le_of_ble_eq_true rfl, Nat.le_of_ble_eq_true rfl⟩), (hts _ (gw kw_972 rfl)), (hts _ (gw ks_57 rfl))⟩ ⟨fun a U g mk q => by obtain ⟨q0, q1, qP, qK, qD, qN⟩ := q; exact ⟨q0, q1, qP, va_K.moved (u := U) (U := U.calling g mk a) (Vm.Alike.refl U.vm) qK, qD, NX.same (u := U) (U := U.calling g mk a) rfl qN⟩, va_recv hK hPc (ci := 12) (q0 := 0) rfl rfl, fun U hU hW => ⟨rfl, by rw [hU], by rw [hU]; exact hPc, va_K.moved hW.alike hK, hDc.weaken (fun _ _ _ _ => trivial), NX.warm hW hN⟩⟩ rfl rfl hl.1 rfl (lv_room (Nat.le_of_ble_eq_true rfl)) dX12_alike_51 ⟨Nat.le_of_ble_eq_true rfl, Nat.le_of_ble_eq_true rfl⟩) hS (fun q _ h => hFc q h) hFc (fun x_35 u t H1 locs ht hvm hw_35 hB hz1 hk1 hS => ?_)
                obtain ⟨u_36, rfl⟩ : ∃ z, z = u := ⟨_, rfl⟩
                obtain ⟨hP1, hK1, hD1⟩ := hB
                rw [ht] at hP1
                clear hK1
                try dsimp only at hw_35
                obtain ⟨hP, hD⟩ := va_join (wr := [(m_setting, .inl (aC 0, 5, .inl stf)), (m_likeGets, .inl (aC 0, 61, .inl gf)), (m_likePrice, .inl (aC 0, 61, .inl pf))]) (w1 := [(g0, .inr (12, [.ref m_refused, .ref m_kind, .ref m_figure, .ref m_weight, .ref m_got, .ref m_setting, .int men, .int msy, .int mdn, .ref m_tape, .ref m_letter, .ref m_letterAt, .ref m_told, .int tp, .int mat, .int stm, .ref m_kept, .int hi, .int ki, .int crs, .ref m_price, .ref m_offer, .ref m_gets, .ref m_yes, .ref m_buys, .ref m_ends, .ref m_carried, .ref m_row, .int rm, .ref m_keptRow, .ref m_likeGets, .ref m_likePrice, .ref m_ahead])), (m_refused, .inl (aC 0, 7, .inl u_36))]) hP hD [0, 4] [1, 2, 3] rfl rfl (by decide) (by decide) hk1 hFc hP1 hD1
                generalize H1 = H at hP hS ⊢
                have hP : va_P (dC, dI) classes [(m_setting, .inl (aC 0, 5, .inl stf)), (m_likeGets, .inl (aC 0, 61, .inl gf)), (m_likePrice, .inl (aC 0, 61, .inl pf)), (g0, .inr (12, [.ref m_refused, .ref m_kind, .ref m_figure, .ref m_weight, .ref m_got, .ref m_setting, .int men, .int msy, .int mdn, .ref m_tape, .ref m_letter, .ref m_letterAt, .ref m_told, .int tp, .int mat, .int stm, .ref m_kept, .int hi, .int ki, .int crs, .ref m_price, .ref m_offer, .ref m_gets, .ref m_yes, .ref m_buys, .ref m_ends, .ref m_carried, .ref m_row, .int rm, .ref m_keptRow, .ref m_likeGets, .ref m_likePrice, .ref m_ahead])), (m_refused, .inl (aC 0, 7, .inl u_36))] H := hP
                have hD : va_D A [(m_setting, .inl (aC 0, 5, .inl stf)), (m_likeGets, .inl (aC 0, 61, .inl gf)), (m_likePrice, .inl (aC 0, 61, .inl pf)), (g0, .inr (12, [.ref m_refused, .ref m_kind, .ref m_figure, .ref m_weight, .ref m_got, .ref m_setting, .int men, .int msy, .int mdn, .ref m_tape, .ref m_letter, .ref m_letterAt, .ref m_told, .int tp, .int mat, .int stm, .ref m_kept, .int hi, .int ki, .int crs, .ref m_price, .ref m_offer, .ref m_gets, .ref m_yes, .ref m_buys, .ref m_ends, .ref m_carried, .ref m_row, .int rm, .ref m_keptRow, .ref m_likeGets, .ref m_likePrice, .ref m_ahead])), (m_refused, .inl (aC 0, 7, .inl u_36))] := hD
                clear hPc hDc hFc hz1 hk1 hP1 hD1 ht hvm
                obtain ⟨hv9, hv8⟩ := hw_35
                have hP9 := hP.sub (ws' := []) [] rfl
                have hD9 := hD.sub (ws' := []) [] (by decide) rfl
                refine W.widen (k := 0) (n := 0) (by omega) (by omega) ?_
                exact W.iret (v := x_35) hx hb hr (fun t ht hW => ⟨⟨x_35, (), rfl, by rw [hv9, alk_6 c_1 c_5 c_9 (Or.inr (Or.inr (Int32.not_lt.mp c_18)))]; rfl, by rw [ht]; exact hP9, va_K.moved hW.alike hK, hD9⟩, hS.F ht⟩) hS.2.2 dX12_alike_54
      · refine lv_bipush (v := -4) hx hb dX12_alike_13 (by decide) ?_
        refine lv_goto (tgt := 41) hx hb dX12_alike_15 (by decide) ?_
        refine lv_istore (lv' := [(5, .int (-4)), (0, .ref g0), (1, .int a1), (2, .int a2), (3, .int a3), (4, .int a4)]) hx hb dX12_alike_41 hl (by decide) rfl (fun ls hl => ?_)
        refine lv_iload hx hb dX12_alike_43 (lv_at hl 0 rfl) ?_
        refine lv_if_eq (tgt := 55) hx hb dX12_alike_45 (by decide) (fun c_37 => ?_) (fun c_37 => ?_)
        · exact absurd c_37 (by decide)
        · refine lv_aload_n hx hb dX12_alike_48 rfl (lv_at hl 1 rfl) ?_
          refine lv_iload hx hb dX12_alike_49 (lv_at hl 0 rfl) ?_
          have hPc := hP.sub (ws' := [(g0, .inr (12, [.ref m_refused, .ref m_kind, .ref m_figure, .ref m_weight, .ref m_got, .ref m_setting, .int men, .int msy, .int mdn, .ref m_tape, .ref m_letter, .ref m_letterAt, .ref m_told, .int tp, .int mat, .int stm, .ref m_kept, .int hi, .int ki, .int crs, .ref m_price, .ref m_offer, .ref m_gets, .ref m_yes, .ref m_buys, .ref m_ends, .ref m_carried, .ref m_row, .int rm, .ref m_keptRow, .ref m_likeGets, .ref m_likePrice, .ref m_ahead])), (m_refused, .inl (aC 0, 7, .inl mr))]) [0, 4] rfl
          have hDc := hD.sub (ws' := [(g0, .inr (12, [.ref m_refused, .ref m_kind, .ref m_figure, .ref m_weight, .ref m_got, .ref m_setting, .int men, .int msy, .int mdn, .ref m_tape, .ref m_letter, .ref m_letterAt, .ref m_told, .int tp, .int mat, .int stm, .ref m_kept, .int hi, .int ki, .int crs, .ref m_price, .ref m_offer, .ref m_gets, .ref m_yes, .ref m_buys, .ref m_ends, .ref m_carried, .ref m_row, .int rm, .ref m_keptRow, .ref m_likeGets, .ref m_likePrice, .ref m_ahead])), (m_refused, .inl (aC 0, 7, .inl mr))]) [0, 4] (by decide) rfl
          have hFc := va_free (wc := [(g0, .inr (12, [.ref m_refused, .ref m_kind, .ref m_figure, .ref m_weight, .ref m_got, .ref m_setting, .int men, .int msy, .int mdn, .ref m_tape, .ref m_letter, .ref m_letterAt, .ref m_told, .int tp, .int mat, .int stm, .ref m_kept, .int hi, .int ki, .int crs, .ref m_price, .ref m_offer, .ref m_gets, .ref m_yes, .ref m_buys, .ref m_ends, .ref m_carried, .ref m_row, .int rm, .ref m_keptRow, .ref m_likeGets, .ref m_likePrice, .ref m_ahead])), (m_refused, .inl (aC 0, 7, .inl mr))]) hD hS hA [0, 4] rfl
          refine va_calli (va_runV (As := [.int (-4)]) (rest := []) ⟨hx, hb, hml, hown, hts⟩ (c_X12_lower l dC dI aC H.size g0 m_refused m_kind m_figure m_weight m_got m_setting m_tape m_letter m_letterAt m_told m_kept m_price m_offer m_gets m_yes m_buys m_ends m_carried m_row m_keptRow m_likeGets m_likePrice m_ahead men msy mdn tp mat stm hi ki crs rm (-4) 4 mr (by decide) (by unfold vp_in; decide)) ⟨(callB_of 1 hts (gG kw_973) rfl rfl rfl (hts _ (gw kw_13 rfl)) (hts _ (gw kw_970 rfl)) (by decide +kernel) ⟨Nat.le_of_ble_eq_true rfl, Nat.le_of_ble_eq_true rfl⟩), (hts _ (gw kw_972 rfl)), (hts _ (gw ks_57 rfl))⟩ ⟨fun a U g mk q => by obtain ⟨q0, q1, qP, qK, qD, qN⟩ := q; exact ⟨q0, q1, qP, va_K.moved (u := U) (U := U.calling g mk a) (Vm.Alike.refl U.vm) qK, qD, NX.same (u := U) (U := U.calling g mk a) rfl qN⟩, va_recv hK hPc (ci := 12) (q0 := 0) rfl rfl, fun U hU hW => ⟨rfl, by rw [hU], by rw [hU]; exact hPc, va_K.moved hW.alike hK, hDc.weaken (fun _ _ _ _ => trivial), NX.warm hW hN⟩⟩ rfl rfl hl.1 rfl (lv_room (Nat.le_of_ble_eq_true rfl)) dX12_alike_51 ⟨Nat.le_of_ble_eq_true rfl, Nat.le_of_ble_eq_true rfl⟩) hS (fun q _ h => hFc q h) hFc (fun x_38 u t H1 locs ht hvm hw_38 hB hz1 hk1 hS => ?_)
          obtain ⟨u_39, rfl⟩ : ∃ z, z = u := ⟨_, rfl⟩
          obtain ⟨hP1, hK1, hD1⟩ := hB
          rw [ht] at hP1
          clear hK1
          try dsimp only at hw_38
          obtain ⟨hP, hD⟩ := va_join (wr := [(m_setting, .inl (aC 0, 5, .inl stf)), (m_likeGets, .inl (aC 0, 61, .inl gf)), (m_likePrice, .inl (aC 0, 61, .inl pf))]) (w1 := [(g0, .inr (12, [.ref m_refused, .ref m_kind, .ref m_figure, .ref m_weight, .ref m_got, .ref m_setting, .int men, .int msy, .int mdn, .ref m_tape, .ref m_letter, .ref m_letterAt, .ref m_told, .int tp, .int mat, .int stm, .ref m_kept, .int hi, .int ki, .int crs, .ref m_price, .ref m_offer, .ref m_gets, .ref m_yes, .ref m_buys, .ref m_ends, .ref m_carried, .ref m_row, .int rm, .ref m_keptRow, .ref m_likeGets, .ref m_likePrice, .ref m_ahead])), (m_refused, .inl (aC 0, 7, .inl u_39))]) hP hD [0, 4] [1, 2, 3] rfl rfl (by decide) (by decide) hk1 hFc hP1 hD1
          generalize H1 = H at hP hS ⊢
          have hP : va_P (dC, dI) classes [(m_setting, .inl (aC 0, 5, .inl stf)), (m_likeGets, .inl (aC 0, 61, .inl gf)), (m_likePrice, .inl (aC 0, 61, .inl pf)), (g0, .inr (12, [.ref m_refused, .ref m_kind, .ref m_figure, .ref m_weight, .ref m_got, .ref m_setting, .int men, .int msy, .int mdn, .ref m_tape, .ref m_letter, .ref m_letterAt, .ref m_told, .int tp, .int mat, .int stm, .ref m_kept, .int hi, .int ki, .int crs, .ref m_price, .ref m_offer, .ref m_gets, .ref m_yes, .ref m_buys, .ref m_ends, .ref m_carried, .ref m_row, .int rm, .ref m_keptRow, .ref m_likeGets, .ref m_likePrice, .ref m_ahead])), (m_refused, .inl (aC 0, 7, .inl u_39))] H := hP
          have hD : va_D A [(m_setting, .inl (aC 0, 5, .inl stf)), (m_likeGets, .inl (aC 0, 61, .inl gf)), (m_likePrice, .inl (aC 0, 61, .inl pf)), (g0, .inr (12, [.ref m_refused, .ref m_kind, .ref m_figure, .ref m_weight, .ref m_got, .ref m_setting, .int men, .int msy, .int mdn, .ref m_tape, .ref m_letter, .ref m_letterAt, .ref m_told, .int tp, .int mat, .int stm, .ref m_kept, .int hi, .int ki, .int crs, .ref m_price, .ref m_offer, .ref m_gets, .ref m_yes, .ref m_buys, .ref m_ends, .ref m_carried, .ref m_row, .int rm, .ref m_keptRow, .ref m_likeGets, .ref m_likePrice, .ref m_ahead])), (m_refused, .inl (aC 0, 7, .inl u_39))] := hD
          clear hPc hDc hFc hz1 hk1 hP1 hD1 ht hvm
          obtain ⟨hv9, hv8⟩ := hw_38
          have hP9 := hP.sub (ws' := []) [] rfl
          have hD9 := hD.sub (ws' := []) [] (by decide) rfl
          refine W.widen (k := 0) (n := 0) (by omega) (by omega) ?_
          exact W.iret (v := x_38) hx hb hr (fun t ht hW => ⟨⟨x_38, (), rfl, by rw [hv9, alk_4 (Or.inr (Or.inr (Int32.not_le.mp c_9)))]; rfl, by rw [ht]; exact hP9, va_K.moved hW.alike hK, hD9⟩, hS.F ht⟩) hS.2.2 dX12_alike_54
