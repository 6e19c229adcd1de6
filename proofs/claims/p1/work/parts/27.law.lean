set_option maxHeartbeats 40000000 in
set_option maxRecDepth 100000 in
/-- THE LAW, from its entry -/
theorem whole_start {p : Program} {e : Env} {s : State} {m : MethodId} {below : List Frame} {meth : Method} {c : Code} (l : Launch) {b L : Nat} {xs : Nat → Int32} (hL : L ≤ 5) (C0 : lw_At p s m meth c b L xs) : W p l e room_1 s m #[Value.ref b] below meth c s.heap [] 0 0 (lw_Z below #[Value.ref b] s) (entryFrame m ([Value.ref b] : List Value).toArray 4) := by
  obtain ⟨hx, hb, hr, hml, hown, hts9, hX, hbl, hlocks, hgv⟩ := id C0
  obtain ⟨A, hAe⟩ : ∃ A : Nat → Prop, A = fun q => s.heap.size ≤ q := ⟨_, rfl⟩
  have hA : ∀ q : Nat, s.heap.size ≤ q → A q := fun q h => by rw [hAe]; exact h
  have hbA : ¬ A b := by rw [hAe]; exact Nat.not_le.mpr hbl
  have hnA : ∀ a : Nat, a < s.heap.size → ¬ A a := fun a h => by rw [hAe]; exact Nat.not_le.mpr h
  have hts : ∀ w9 ∈ lw_G, w9.before #[Value.ref b] s = true := fun w9 h9 => hts9 w9 (List.mem_filter.mp h9).1
  have hN : NX s := law_N hts9
  obtain ⟨dC, dI, aC, hK⟩ := law_K hts9
  obtain ⟨tG, hZG, hTG⟩ := law_G (A := A) hts9 hgv hnA
  obtain ⟨tM, hZM, hTM⟩ := law_M (A := A) hts9 hgv hnA
  obtain ⟨H, hHe⟩ : ∃ H : Heap, H = s.heap := ⟨_, rfl⟩
  have hS : va_S A s.heap H [] := by rw [hHe]; exact va_S.rf
  have hP : va_P (dC, dI) classes [] H := fun k q h => by simp at h
  have hD : va_D A [] := ⟨fun i j p q h => by simp at h, fun k q h => by simp at h⟩
  have hl := lv_entry ([.ref b]) (n := 4) (Nat.le_of_ble_eq_true rfl)
  rw [lg_entry_eq]
  generalize (lg_sl ([.ref b]) ++ List.replicate (4 - (lg_sl ([.ref b])).length) Slot.unset).toArray = ls at hl ⊢
  have hl : lv_has ls 4 [(0, .ref b)] := hl
  rw [← hHe]
  refine va_new (ci := 11) (fs := [.null, .null, .null, .null, .null, .null, .null, .null, .null, .null, .null, .int 0, .int 0, .int 0]) (C := RX11) (T := TX11) (N := 14) hx hb hts inX11 tyX11 tyX11_ok hown (hts _ (gw kw_18 rfl)) (hts _ (gw kw_19 rfl)) (hts _ (gw kw_1 rfl)) hK hP hD hS hA rfl (fun j hj => by have h9 : j = 0 ∨ j = 1 ∨ j = 2 ∨ j = 3 ∨ j = 4 ∨ j = 5 ∨ j = 6 ∨ j = 7 ∨ j = 8 ∨ j = 9 ∨ j = 10 ∨ j = 11 ∨ j = 12 ∨ j = 13 := (by omega); rcases h9 with rfl | rfl | rfl | rfl | rfl | rfl | rfl | rfl | rfl | rfl | rfl | rfl | rfl | rfl <;> rfl) (Nat.le_of_ble_eq_true rfl) (Nat.le_of_ble_eq_true rfl) dL_law_0 (fun q_1 H hP hD hS => ?_)
  have hP : va_P (dC, dI) classes [(q_1, .inr (11, [.null, .null, .null, .null, .null, .null, .null, .null, .null, .null, .null, .int 0, .int 0, .int 0]))] H := hP
  have hD : va_D A [(q_1, .inr (11, [.null, .null, .null, .null, .null, .null, .null, .null, .null, .null, .null, .int 0, .int 0, .int 0]))] := hD
  refine W.widen (k := 1) (n := 14) (by omega) (by omega) ?_
  refine lv_dup hx hb dL_law_3 rfl ?_
  have hPc := hP.sub (ws' := [(q_1, .inr (11, [.null, .null, .null, .null, .null, .null, .null, .null, .null, .null, .null, .int 0, .int 0, .int 0]))]) [0] rfl
  have hDc := hD.sub (ws' := [(q_1, .inr (11, [.null, .null, .null, .null, .null, .null, .null, .null, .null, .null, .null, .int 0, .int 0, .int 0]))]) [0] (by decide) rfl
  have hFc := va_free (wc := [(q_1, .inr (11, [.null, .null, .null, .null, .null, .null, .null, .null, .null, .null, .null, .int 0, .int 0, .int 0]))]) hD hS hA [0] rfl
  refine va_callv (va_runI (As := []) (rest := [.ref q_1]) ⟨hx, hb, hml, hown, hts⟩ (c_X11_init l dC dI aC H.size q_1 ) ⟨(callB_of 0 hts (gG kw_22) rfl rfl rfl (hts _ (gw kw_1 rfl)) (hts _ (gw kw_20 rfl)) (by decide +kernel) ⟨Nat.le_of_ble_eq_true rfl, Nat.le_of_ble_eq_true rfl⟩), rfl, (hts _ (gw kw_21 rfl))⟩ ⟨fun a U g mk q => by obtain ⟨q0, q1, qP, qK, qD, qN⟩ := q; exact ⟨q0, q1, qP, va_K.moved (u := U) (U := U.calling g mk a) (Vm.Alike.refl U.vm) qK, qD, NX.same (u := U) (U := U.calling g mk a) rfl qN⟩, fun U hU hW => ⟨rfl, by rw [hU], by rw [hU]; exact hPc, va_K.moved hW.alike hK, hDc.weaken (fun _ _ _ _ => trivial), NX.warm hW hN⟩⟩ rfl rfl hl.1 rfl (lv_room (Nat.le_of_ble_eq_true rfl)) dL_law_4 ⟨Nat.le_of_ble_eq_true rfl, Nat.le_of_ble_eq_true rfl⟩) hS (fun q _ h => hFc q h) hFc (fun u t H1 locs ht hvm hw_2 hB hz1 hk1 hS => ?_)
  obtain ⟨u_3, u_4⟩ := u
  obtain ⟨q_5, q_6, q_7, q_8, q_9, q_10, q_11, q_12, q_13, q_14, q_15, q_16, q_17, q_18, q_19, q_20, q_21, q_22, q_23, q_24, q_25, q_26, q_27, q_28, q_29, q_30, hP1, hK1, hD1⟩ := hB
  rw [ht] at hP1
  clear hK1
  try dsimp only at hw_2
  obtain ⟨hP, hD⟩ := va_join (wr := []) (w1 := [(q_1, .inr (11, [.ref q_5, .ref q_6, .ref q_7, .ref q_8, .ref q_9, .ref q_10, .ref q_11, .ref q_12, .ref q_13, .ref q_14, .ref q_15, .int 0, .int 0, .int 1])), (q_7, .inr (4, [.ref q_16, .ref q_17, .ref q_18, .ref q_19, .ref q_20, .int 0, .int 0, .int 0])), (q_16, .inl (aC 0, 8, .inl (fun _ => 0))), (q_17, .inl (aC 0, 8, .inl (fun _ => 0))), (q_18, .inl (aC 0, 8, .inl (fun _ => 0))), (q_19, .inl (aC 0, 8, .inl (fun _ => 0))), (q_20, .inl (aC 0, 5, .inl u_3)), (q_9, .inr (4, [.ref q_21, .ref q_22, .ref q_23, .ref q_24, .ref q_25, .int 0, .int 0, .int 0])), (q_21, .inl (aC 0, 8, .inl (fun _ => 0))), (q_22, .inl (aC 0, 8, .inl (fun _ => 0))), (q_23, .inl (aC 0, 8, .inl (fun _ => 0))), (q_24, .inl (aC 0, 8, .inl (fun _ => 0))), (q_25, .inl (aC 0, 5, .inl u_4)), (q_10, .inr (7, [.int 0, .ref q_26])), (q_26, .inl (aC 1, 64, .inl (fun _ => 0))), (q_11, .inr (2, [.ref q_27, .ref q_28, .ref q_29, .ref q_30, .int 0, .int 0])), (q_27, .inl (aC 0, 60, .inl (fun _ => 0))), (q_28, .inl (aC 0, 60, .inl (fun _ => 0))), (q_29, .inl (aC 0, 60, .inl (fun _ => 0))), (q_30, .inr (0, [])), (q_13, .inl (aC 0, 8, .inl (fun _ => 0))), (q_14, .inl (aC 0, 7, .inl (fun _ => 0)))]) hP hD [0] [] rfl rfl (by decide) (by decide) hk1 hFc hP1 hD1
  generalize H1 = H at hP hS ⊢
  have hP : va_P (dC, dI) classes [(q_1, .inr (11, [.ref q_5, .ref q_6, .ref q_7, .ref q_8, .ref q_9, .ref q_10, .ref q_11, .ref q_12, .ref q_13, .ref q_14, .ref q_15, .int 0, .int 0, .int 1])), (q_7, .inr (4, [.ref q_16, .ref q_17, .ref q_18, .ref q_19, .ref q_20, .int 0, .int 0, .int 0])), (q_16, .inl (aC 0, 8, .inl (fun _ => 0))), (q_17, .inl (aC 0, 8, .inl (fun _ => 0))), (q_18, .inl (aC 0, 8, .inl (fun _ => 0))), (q_19, .inl (aC 0, 8, .inl (fun _ => 0))), (q_20, .inl (aC 0, 5, .inl u_3)), (q_9, .inr (4, [.ref q_21, .ref q_22, .ref q_23, .ref q_24, .ref q_25, .int 0, .int 0, .int 0])), (q_21, .inl (aC 0, 8, .inl (fun _ => 0))), (q_22, .inl (aC 0, 8, .inl (fun _ => 0))), (q_23, .inl (aC 0, 8, .inl (fun _ => 0))), (q_24, .inl (aC 0, 8, .inl (fun _ => 0))), (q_25, .inl (aC 0, 5, .inl u_4)), (q_10, .inr (7, [.int 0, .ref q_26])), (q_26, .inl (aC 1, 64, .inl (fun _ => 0))), (q_11, .inr (2, [.ref q_27, .ref q_28, .ref q_29, .ref q_30, .int 0, .int 0])), (q_27, .inl (aC 0, 60, .inl (fun _ => 0))), (q_28, .inl (aC 0, 60, .inl (fun _ => 0))), (q_29, .inl (aC 0, 60, .inl (fun _ => 0))), (q_30, .inr (0, [])), (q_13, .inl (aC 0, 8, .inl (fun _ => 0))), (q_14, .inl (aC 0, 7, .inl (fun _ => 0)))] H := hP
  have hD : va_D A [(q_1, .inr (11, [.ref q_5, .ref q_6, .ref q_7, .ref q_8, .ref q_9, .ref q_10, .ref q_11, .ref q_12, .ref q_13, .ref q_14, .ref q_15, .int 0, .int 0, .int 1])), (q_7, .inr (4, [.ref q_16, .ref q_17, .ref q_18, .ref q_19, .ref q_20, .int 0, .int 0, .int 0])), (q_16, .inl (aC 0, 8, .inl (fun _ => 0))), (q_17, .inl (aC 0, 8, .inl (fun _ => 0))), (q_18, .inl (aC 0, 8, .inl (fun _ => 0))), (q_19, .inl (aC 0, 8, .inl (fun _ => 0))), (q_20, .inl (aC 0, 5, .inl u_3)), (q_9, .inr (4, [.ref q_21, .ref q_22, .ref q_23, .ref q_24, .ref q_25, .int 0, .int 0, .int 0])), (q_21, .inl (aC 0, 8, .inl (fun _ => 0))), (q_22, .inl (aC 0, 8, .inl (fun _ => 0))), (q_23, .inl (aC 0, 8, .inl (fun _ => 0))), (q_24, .inl (aC 0, 8, .inl (fun _ => 0))), (q_25, .inl (aC 0, 5, .inl u_4)), (q_10, .inr (7, [.int 0, .ref q_26])), (q_26, .inl (aC 1, 64, .inl (fun _ => 0))), (q_11, .inr (2, [.ref q_27, .ref q_28, .ref q_29, .ref q_30, .int 0, .int 0])), (q_27, .inl (aC 0, 60, .inl (fun _ => 0))), (q_28, .inl (aC 0, 60, .inl (fun _ => 0))), (q_29, .inl (aC 0, 60, .inl (fun _ => 0))), (q_30, .inr (0, [])), (q_13, .inl (aC 0, 8, .inl (fun _ => 0))), (q_14, .inl (aC 0, 7, .inl (fun _ => 0)))] := hD
  clear hPc hDc hFc hz1 hk1 hP1 hD1 ht hvm
  refine W.widen (k := 107) (n := 1552) (by omega) (by omega) ?_
  obtain ⟨hs1, hs2⟩ := hw_2
  have h9 : u_3 = SET0 := hs1
  subst h9
  have h9 : u_4 = SET0 := hs2
  subst h9
  refine lv_astore_n (lv' := [(1, .ref q_1), (0, .ref b)]) hx hb dL_law_7 rfl hl (by decide) rfl (fun ls hl => ?_)
  refine va_new (ci := 12) (fs := [.null, .null, .null, .null, .null, .null, .int 0, .int 0, .int 0, .null, .null, .null, .null, .int 0, .int 0, .int 0, .null, .int 0, .int 0, .int 0, .null, .null, .null, .null, .null, .null, .null, .null, .int 0, .null, .null, .null, .null]) (C := RX12) (T := TX12) (N := 33) hx hb hts inX12 tyX12 tyX12_ok hown (hts _ (gw kw_711 rfl)) (hts _ (gw kw_712 rfl)) (hts _ (gw kw_13 rfl)) hK hP hD hS hA rfl (fun j hj => by have h9 : j = 0 ∨ j = 1 ∨ j = 2 ∨ j = 3 ∨ j = 4 ∨ j = 5 ∨ j = 6 ∨ j = 7 ∨ j = 8 ∨ j = 9 ∨ j = 10 ∨ j = 11 ∨ j = 12 ∨ j = 13 ∨ j = 14 ∨ j = 15 ∨ j = 16 ∨ j = 17 ∨ j = 18 ∨ j = 19 ∨ j = 20 ∨ j = 21 ∨ j = 22 ∨ j = 23 ∨ j = 24 ∨ j = 25 ∨ j = 26 ∨ j = 27 ∨ j = 28 ∨ j = 29 ∨ j = 30 ∨ j = 31 ∨ j = 32 := (by omega); rcases h9 with rfl | rfl | rfl | rfl | rfl | rfl | rfl | rfl | rfl | rfl | rfl | rfl | rfl | rfl | rfl | rfl | rfl | rfl | rfl | rfl | rfl | rfl | rfl | rfl | rfl | rfl | rfl | rfl | rfl | rfl | rfl | rfl | rfl <;> rfl) (Nat.le_of_ble_eq_true rfl) (Nat.le_of_ble_eq_true rfl) dL_law_8 (fun q_31 H hP hD hS => ?_)
  have hP : va_P (dC, dI) classes [(q_1, .inr (11, [.ref q_5, .ref q_6, .ref q_7, .ref q_8, .ref q_9, .ref q_10, .ref q_11, .ref q_12, .ref q_13, .ref q_14, .ref q_15, .int 0, .int 0, .int 1])), (q_7, .inr (4, [.ref q_16, .ref q_17, .ref q_18, .ref q_19, .ref q_20, .int 0, .int 0, .int 0])), (q_16, .inl (aC 0, 8, .inl (fun _ => 0))), (q_17, .inl (aC 0, 8, .inl (fun _ => 0))), (q_18, .inl (aC 0, 8, .inl (fun _ => 0))), (q_19, .inl (aC 0, 8, .inl (fun _ => 0))), (q_20, .inl (aC 0, 5, .inl SET0)), (q_9, .inr (4, [.ref q_21, .ref q_22, .ref q_23, .ref q_24, .ref q_25, .int 0, .int 0, .int 0])), (q_21, .inl (aC 0, 8, .inl (fun _ => 0))), (q_22, .inl (aC 0, 8, .inl (fun _ => 0))), (q_23, .inl (aC 0, 8, .inl (fun _ => 0))), (q_24, .inl (aC 0, 8, .inl (fun _ => 0))), (q_25, .inl (aC 0, 5, .inl SET0)), (q_10, .inr (7, [.int 0, .ref q_26])), (q_26, .inl (aC 1, 64, .inl (fun _ => 0))), (q_11, .inr (2, [.ref q_27, .ref q_28, .ref q_29, .ref q_30, .int 0, .int 0])), (q_27, .inl (aC 0, 60, .inl (fun _ => 0))), (q_28, .inl (aC 0, 60, .inl (fun _ => 0))), (q_29, .inl (aC 0, 60, .inl (fun _ => 0))), (q_30, .inr (0, [])), (q_13, .inl (aC 0, 8, .inl (fun _ => 0))), (q_14, .inl (aC 0, 7, .inl (fun _ => 0))), (q_31, .inr (12, [.null, .null, .null, .null, .null, .null, .int 0, .int 0, .int 0, .null, .null, .null, .null, .int 0, .int 0, .int 0, .null, .int 0, .int 0, .int 0, .null, .null, .null, .null, .null, .null, .null, .null, .int 0, .null, .null, .null, .null]))] H := hP
  have hD : va_D A [(q_1, .inr (11, [.ref q_5, .ref q_6, .ref q_7, .ref q_8, .ref q_9, .ref q_10, .ref q_11, .ref q_12, .ref q_13, .ref q_14, .ref q_15, .int 0, .int 0, .int 1])), (q_7, .inr (4, [.ref q_16, .ref q_17, .ref q_18, .ref q_19, .ref q_20, .int 0, .int 0, .int 0])), (q_16, .inl (aC 0, 8, .inl (fun _ => 0))), (q_17, .inl (aC 0, 8, .inl (fun _ => 0))), (q_18, .inl (aC 0, 8, .inl (fun _ => 0))), (q_19, .inl (aC 0, 8, .inl (fun _ => 0))), (q_20, .inl (aC 0, 5, .inl SET0)), (q_9, .inr (4, [.ref q_21, .ref q_22, .ref q_23, .ref q_24, .ref q_25, .int 0, .int 0, .int 0])), (q_21, .inl (aC 0, 8, .inl (fun _ => 0))), (q_22, .inl (aC 0, 8, .inl (fun _ => 0))), (q_23, .inl (aC 0, 8, .inl (fun _ => 0))), (q_24, .inl (aC 0, 8, .inl (fun _ => 0))), (q_25, .inl (aC 0, 5, .inl SET0)), (q_10, .inr (7, [.int 0, .ref q_26])), (q_26, .inl (aC 1, 64, .inl (fun _ => 0))), (q_11, .inr (2, [.ref q_27, .ref q_28, .ref q_29, .ref q_30, .int 0, .int 0])), (q_27, .inl (aC 0, 60, .inl (fun _ => 0))), (q_28, .inl (aC 0, 60, .inl (fun _ => 0))), (q_29, .inl (aC 0, 60, .inl (fun _ => 0))), (q_30, .inr (0, [])), (q_13, .inl (aC 0, 8, .inl (fun _ => 0))), (q_14, .inl (aC 0, 7, .inl (fun _ => 0))), (q_31, .inr (12, [.null, .null, .null, .null, .null, .null, .int 0, .int 0, .int 0, .null, .null, .null, .null, .int 0, .int 0, .int 0, .null, .int 0, .int 0, .int 0, .null, .null, .null, .null, .null, .null, .null, .null, .int 0, .null, .null, .null, .null]))] := hD
  refine W.widen (k := 108) (n := 1585) (by omega) (by omega) ?_
  refine lv_dup hx hb dL_law_11 rfl ?_
  have hPc := hP.sub (ws' := [(q_31, .inr (12, [.null, .null, .null, .null, .null, .null, .int 0, .int 0, .int 0, .null, .null, .null, .null, .int 0, .int 0, .int 0, .null, .int 0, .int 0, .int 0, .null, .null, .null, .null, .null, .null, .null, .null, .int 0, .null, .null, .null, .null]))]) [22] rfl
  have hDc := hD.sub (ws' := [(q_31, .inr (12, [.null, .null, .null, .null, .null, .null, .int 0, .int 0, .int 0, .null, .null, .null, .null, .int 0, .int 0, .int 0, .null, .int 0, .int 0, .int 0, .null, .null, .null, .null, .null, .null, .null, .null, .int 0, .null, .null, .null, .null]))]) [22] (by decide) rfl
  have hFc := va_free (wc := [(q_31, .inr (12, [.null, .null, .null, .null, .null, .null, .int 0, .int 0, .int 0, .null, .null, .null, .null, .int 0, .int 0, .int 0, .null, .int 0, .int 0, .int 0, .null, .null, .null, .null, .null, .null, .null, .null, .int 0, .null, .null, .null, .null]))]) hD hS hA [22] rfl
  refine va_callv (va_runI (As := []) (rest := [.ref q_31]) ⟨hx, hb, hml, hown, hts⟩ (c_X12_init l dC dI aC H.size q_31 ) ⟨(callB_of 0 hts (gG kw_715) rfl rfl rfl (hts _ (gw kw_13 rfl)) (hts _ (gw kw_713 rfl)) (by decide +kernel) ⟨Nat.le_of_ble_eq_true rfl, Nat.le_of_ble_eq_true rfl⟩), rfl, (hts _ (gw kw_714 rfl))⟩ ⟨fun a U g mk q => by obtain ⟨q0, q1, qP, qK, qD, qN⟩ := q; exact ⟨q0, q1, qP, va_K.moved (u := U) (U := U.calling g mk a) (Vm.Alike.refl U.vm) qK, qD, NX.same (u := U) (U := U.calling g mk a) rfl qN⟩, fun U hU hW => ⟨rfl, by rw [hU], by rw [hU]; exact hPc, va_K.moved hW.alike hK, hDc.weaken (fun _ _ _ _ => trivial), NX.warm hW hN⟩⟩ rfl rfl hl.1 rfl (lv_room (Nat.le_of_ble_eq_true rfl)) dL_law_12 ⟨Nat.le_of_ble_eq_true rfl, Nat.le_of_ble_eq_true rfl⟩) hS (fun q _ h => hFc q h) hFc (fun u t H1 locs ht hvm hw_32 hB hz1 hk1 hS => ?_)
  obtain ⟨u_33, rfl⟩ : ∃ z, z = u := ⟨_, rfl⟩
  obtain ⟨q_34, q_35, q_36, q_37, q_38, q_39, q_40, q_41, q_42, q_43, q_44, q_45, q_46, q_47, q_48, q_49, q_50, q_51, q_52, q_53, q_54, q_55, q_56, hP1, hK1, hD1⟩ := hB
  rw [ht] at hP1
  clear hK1
  try dsimp only at hw_32
  obtain ⟨hP, hD⟩ := va_join (wr := [(q_1, .inr (11, [.ref q_5, .ref q_6, .ref q_7, .ref q_8, .ref q_9, .ref q_10, .ref q_11, .ref q_12, .ref q_13, .ref q_14, .ref q_15, .int 0, .int 0, .int 1])), (q_7, .inr (4, [.ref q_16, .ref q_17, .ref q_18, .ref q_19, .ref q_20, .int 0, .int 0, .int 0])), (q_16, .inl (aC 0, 8, .inl (fun _ => 0))), (q_17, .inl (aC 0, 8, .inl (fun _ => 0))), (q_18, .inl (aC 0, 8, .inl (fun _ => 0))), (q_19, .inl (aC 0, 8, .inl (fun _ => 0))), (q_20, .inl (aC 0, 5, .inl SET0)), (q_9, .inr (4, [.ref q_21, .ref q_22, .ref q_23, .ref q_24, .ref q_25, .int 0, .int 0, .int 0])), (q_21, .inl (aC 0, 8, .inl (fun _ => 0))), (q_22, .inl (aC 0, 8, .inl (fun _ => 0))), (q_23, .inl (aC 0, 8, .inl (fun _ => 0))), (q_24, .inl (aC 0, 8, .inl (fun _ => 0))), (q_25, .inl (aC 0, 5, .inl SET0)), (q_10, .inr (7, [.int 0, .ref q_26])), (q_26, .inl (aC 1, 64, .inl (fun _ => 0))), (q_11, .inr (2, [.ref q_27, .ref q_28, .ref q_29, .ref q_30, .int 0, .int 0])), (q_27, .inl (aC 0, 60, .inl (fun _ => 0))), (q_28, .inl (aC 0, 60, .inl (fun _ => 0))), (q_29, .inl (aC 0, 60, .inl (fun _ => 0))), (q_30, .inr (0, [])), (q_13, .inl (aC 0, 8, .inl (fun _ => 0))), (q_14, .inl (aC 0, 7, .inl (fun _ => 0)))]) (w1 := [(q_31, .inr (12, [.ref q_34, .ref q_35, .ref q_36, .ref q_37, .ref q_38, .ref q_39, .int 0, .int 0, .int 0, .ref q_40, .ref q_41, .ref q_42, .ref q_43, .int 0, .int 0, .int 0, .ref q_44, .int 0, .int 0, .int 0, .ref q_45, .ref q_46, .ref q_47, .ref q_48, .ref q_49, .ref q_50, .ref q_51, .ref q_52, .int 0, .ref q_53, .ref q_54, .ref q_55, .ref q_56])), (q_34, .inl (aC 0, 7, .inl (fun _ => 0))), (q_35, .inl (aC 0, 9, .inl (fun _ => 0))), (q_36, .inl (aC 0, 9, .inl (fun _ => 0))), (q_37, .inl (aC 0, 9, .inl (fun _ => 0))), (q_38, .inl (aC 0, 8, .inl (fun _ => 0))), (q_39, .inl (aC 0, 5, .inl u_33)), (q_40, .inl (aC 0, 64, .inl (fun _ => 0))), (q_44, .inl (aC 0, 100, .inl (fun _ => 0))), (q_52, .inl (aC 0, 8, .inl (fun _ => 0))), (q_54, .inl (aC 0, 61, .inl (fun _ => 0))), (q_55, .inl (aC 0, 61, .inl (fun _ => 0)))]) hP hD [22] [0, 1, 2, 3, 4, 5, 6, 7, 8, 9, 10, 11, 12, 13, 14, 15, 16, 17, 18, 19, 20, 21] rfl rfl (by decide) (by decide) hk1 hFc hP1 hD1
  generalize H1 = H at hP hS ⊢
  have hP : va_P (dC, dI) classes [(q_1, .inr (11, [.ref q_5, .ref q_6, .ref q_7, .ref q_8, .ref q_9, .ref q_10, .ref q_11, .ref q_12, .ref q_13, .ref q_14, .ref q_15, .int 0, .int 0, .int 1])), (q_7, .inr (4, [.ref q_16, .ref q_17, .ref q_18, .ref q_19, .ref q_20, .int 0, .int 0, .int 0])), (q_16, .inl (aC 0, 8, .inl (fun _ => 0))), (q_17, .inl (aC 0, 8, .inl (fun _ => 0))), (q_18, .inl (aC 0, 8, .inl (fun _ => 0))), (q_19, .inl (aC 0, 8, .inl (fun _ => 0))), (q_20, .inl (aC 0, 5, .inl SET0)), (q_9, .inr (4, [.ref q_21, .ref q_22, .ref q_23, .ref q_24, .ref q_25, .int 0, .int 0, .int 0])), (q_21, .inl (aC 0, 8, .inl (fun _ => 0))), (q_22, .inl (aC 0, 8, .inl (fun _ => 0))), (q_23, .inl (aC 0, 8, .inl (fun _ => 0))), (q_24, .inl (aC 0, 8, .inl (fun _ => 0))), (q_25, .inl (aC 0, 5, .inl SET0)), (q_10, .inr (7, [.int 0, .ref q_26])), (q_26, .inl (aC 1, 64, .inl (fun _ => 0))), (q_11, .inr (2, [.ref q_27, .ref q_28, .ref q_29, .ref q_30, .int 0, .int 0])), (q_27, .inl (aC 0, 60, .inl (fun _ => 0))), (q_28, .inl (aC 0, 60, .inl (fun _ => 0))), (q_29, .inl (aC 0, 60, .inl (fun _ => 0))), (q_30, .inr (0, [])), (q_13, .inl (aC 0, 8, .inl (fun _ => 0))), (q_14, .inl (aC 0, 7, .inl (fun _ => 0))), (q_31, .inr (12, [.ref q_34, .ref q_35, .ref q_36, .ref q_37, .ref q_38, .ref q_39, .int 0, .int 0, .int 0, .ref q_40, .ref q_41, .ref q_42, .ref q_43, .int 0, .int 0, .int 0, .ref q_44, .int 0, .int 0, .int 0, .ref q_45, .ref q_46, .ref q_47, .ref q_48, .ref q_49, .ref q_50, .ref q_51, .ref q_52, .int 0, .ref q_53, .ref q_54, .ref q_55, .ref q_56])), (q_34, .inl (aC 0, 7, .inl (fun _ => 0))), (q_35, .inl (aC 0, 9, .inl (fun _ => 0))), (q_36, .inl (aC 0, 9, .inl (fun _ => 0))), (q_37, .inl (aC 0, 9, .inl (fun _ => 0))), (q_38, .inl (aC 0, 8, .inl (fun _ => 0))), (q_39, .inl (aC 0, 5, .inl u_33)), (q_40, .inl (aC 0, 64, .inl (fun _ => 0))), (q_44, .inl (aC 0, 100, .inl (fun _ => 0))), (q_52, .inl (aC 0, 8, .inl (fun _ => 0))), (q_54, .inl (aC 0, 61, .inl (fun _ => 0))), (q_55, .inl (aC 0, 61, .inl (fun _ => 0)))] H := hP
  have hD : va_D A [(q_1, .inr (11, [.ref q_5, .ref q_6, .ref q_7, .ref q_8, .ref q_9, .ref q_10, .ref q_11, .ref q_12, .ref q_13, .ref q_14, .ref q_15, .int 0, .int 0, .int 1])), (q_7, .inr (4, [.ref q_16, .ref q_17, .ref q_18, .ref q_19, .ref q_20, .int 0, .int 0, .int 0])), (q_16, .inl (aC 0, 8, .inl (fun _ => 0))), (q_17, .inl (aC 0, 8, .inl (fun _ => 0))), (q_18, .inl (aC 0, 8, .inl (fun _ => 0))), (q_19, .inl (aC 0, 8, .inl (fun _ => 0))), (q_20, .inl (aC 0, 5, .inl SET0)), (q_9, .inr (4, [.ref q_21, .ref q_22, .ref q_23, .ref q_24, .ref q_25, .int 0, .int 0, .int 0])), (q_21, .inl (aC 0, 8, .inl (fun _ => 0))), (q_22, .inl (aC 0, 8, .inl (fun _ => 0))), (q_23, .inl (aC 0, 8, .inl (fun _ => 0))), (q_24, .inl (aC 0, 8, .inl (fun _ => 0))), (q_25, .inl (aC 0, 5, .inl SET0)), (q_10, .inr (7, [.int 0, .ref q_26])), (q_26, .inl (aC 1, 64, .inl (fun _ => 0))), (q_11, .inr (2, [.ref q_27, .ref q_28, .ref q_29, .ref q_30, .int 0, .int 0])), (q_27, .inl (aC 0, 60, .inl (fun _ => 0))), (q_28, .inl (aC 0, 60, .inl (fun _ => 0))), (q_29, .inl (aC 0, 60, .inl (fun _ => 0))), (q_30, .inr (0, [])), (q_13, .inl (aC 0, 8, .inl (fun _ => 0))), (q_14, .inl (aC 0, 7, .inl (fun _ => 0))), (q_31, .inr (12, [.ref q_34, .ref q_35, .ref q_36, .ref q_37, .ref q_38, .ref q_39, .int 0, .int 0, .int 0, .ref q_40, .ref q_41, .ref q_42, .ref q_43, .int 0, .int 0, .int 0, .ref q_44, .int 0, .int 0, .int 0, .ref q_45, .ref q_46, .ref q_47, .ref q_48, .ref q_49, .ref q_50, .ref q_51, .ref q_52, .int 0, .ref q_53, .ref q_54, .ref q_55, .ref q_56])), (q_34, .inl (aC 0, 7, .inl (fun _ => 0))), (q_35, .inl (aC 0, 9, .inl (fun _ => 0))), (q_36, .inl (aC 0, 9, .inl (fun _ => 0))), (q_37, .inl (aC 0, 9, .inl (fun _ => 0))), (q_38, .inl (aC 0, 8, .inl (fun _ => 0))), (q_39, .inl (aC 0, 5, .inl u_33)), (q_40, .inl (aC 0, 64, .inl (fun _ => 0))), (q_44, .inl (aC 0, 100, .inl (fun _ => 0))), (q_52, .inl (aC 0, 8, .inl (fun _ => 0))), (q_54, .inl (aC 0, 61, .inl (fun _ => 0))), (q_55, .inl (aC 0, 61, .inl (fun _ => 0)))] := hD
  clear hPc hDc hFc hz1 hk1 hP1 hD1 ht hvm
  refine W.widen (k := 131) (n := 2390) (by omega) (by omega) ?_
  have h9 : u_33 = SET0 := hw_32
  subst h9
  refine lv_astore_n (lv' := [(2, .ref q_31), (1, .ref q_1), (0, .ref b)]) hx hb dL_law_15 rfl hl (by decide) rfl (fun ls hl => ?_)
  refine lv_iconst (v := 0) hx hb dL_law_16 (by decide) ?_
  refine lv_istore_n (lv' := [(3, .int 0), (2, .ref q_31), (1, .ref q_1), (0, .ref b)]) hx hb dL_law_17 rfl hl (by decide) rfl (fun ls hl => ?_)
  refine lv_iload_n hx hb dL_law_18 rfl (lv_at hl 0 rfl) ?_
  refine lv_aload_n hx hb dL_law_19 rfl (lv_at hl 3 rfl) ?_
  refine va_slen hx hb hX hbl hbA hS dL_law_20 ?_
  refine lv_topi (fun x_57 e_57 => ?_)
  refine lv_iconst (v := 5) hx hb dL_law_21 (by decide) ?_
  refine lv_isub hx hb dL_law_22 ?_
  refine lv_topi (fun x_58 e_58 => ?_)
  refine lv_icmp_gt (tgt := 914) hx hb dL_law_23 (by decide) (fun c_59 => ?_) (fun c_59 => ?_)
  · refine lv_iconst (v := 1) hx hb dL_law_914 (by decide) ?_
    refine va_forget (fun q hq => by have := hS.2.2 q hq; rw [hAe] at this; exact this) ?_
    refine W.widen (k := 600000) (n := 7302250) (Nat.le_of_ble_eq_true rfl) (Nat.le_of_ble_eq_true rfl) ?_
    exact lw_ret hx hb hr hlocks dL_law_915
  · have hL5 : L = 5 := by
      rcases (show L = 0 ∨ L = 1 ∨ L = 2 ∨ L = 3 ∨ L = 4 ∨ L = 5 by omega) with h9 | h9 | h9 | h9 | h9 | h9
      · exact absurd (by rw [e_58, e_57, h9]; decide) c_59
      · exact absurd (by rw [e_58, e_57, h9]; decide) c_59
      · exact absurd (by rw [e_58, e_57, h9]; decide) c_59
      · exact absurd (by rw [e_58, e_57, h9]; decide) c_59
      · exact absurd (by rw [e_58, e_57, h9]; decide) c_59
      · exact h9
    subst hL5
    refine lv_aload_n hx hb dL_law_26 rfl (lv_at hl 3 rfl) ?_
    refine lv_iload_n hx hb dL_law_27 rfl (lv_at hl 0 rfl) ?_
    have h_60 : vp_in 0 5 := by first | assumption | (unfold vp_in; decide) | exact vp_in_nI (by omega) (by omega) | (subst_vars; first | (unfold vp_in; decide) | exact vp_in_nI (by omega) (by omega))
    refine va_sld hx hb hX hbl hbA hS h_60 dL_law_28 ?_
    refine lv_topi (fun x_61 e_61 => ?_)
    have h9 : x_61 = (xs 0) := by rw [e_61]; rfl
    subst h9
    refine lv_bipush (v := 31) hx hb dL_law_29 (by decide) ?_
    refine lv_iand hx hb dL_law_31 ?_
    refine lv_topi (fun x_62 e_62 => ?_)
    by_cases c_63 : x_62 = 0
    · refine lv_tableIn (tgt := 164) hx hb dL_law_32 (by rw [c_63]; decide) (by rw [c_63]; decide) (by rw [c_63]; rfl) (by decide) ?_
      have hP : va_P (dC, dI) classes [(q_1, .inr (11, [.ref q_5, .ref q_6, .ref q_7, .ref q_8, .ref q_9, .ref q_10, .ref q_11, .ref q_12, .ref q_13, .ref q_14, .ref q_15, .int 0, .int 0, .int 1])), (q_10, .inr (7, [.int 0, .ref q_26])), (q_26, .inl (aC 1, 64, .inl (fun _ => 0))), (q_14, .inl (aC 0, 7, .inl (fun _ => 0))), (q_31, .inr (12, [.ref q_34, .ref q_35, .ref q_36, .ref q_37, .ref q_38, .ref q_39, .int 0, .int 0, .int 0, .ref q_40, .ref q_41, .ref q_42, .ref q_43, .int 0, .int 0, .int 0, .ref q_44, .int 0, .int 0, .int 0, .ref q_45, .ref q_46, .ref q_47, .ref q_48, .ref q_49, .ref q_50, .ref q_51, .ref q_52, .int 0, .ref q_53, .ref q_54, .ref q_55, .ref q_56])), (q_34, .inl (aC 0, 7, .inl (fun _ => 0))), (q_40, .inl (aC 0, 64, .inl (fun _ => 0)))] H := hP.sub [0, 13, 14, 21, 22, 23, 29] rfl
      have hD : va_D A [(q_1, .inr (11, [.ref q_5, .ref q_6, .ref q_7, .ref q_8, .ref q_9, .ref q_10, .ref q_11, .ref q_12, .ref q_13, .ref q_14, .ref q_15, .int 0, .int 0, .int 1])), (q_10, .inr (7, [.int 0, .ref q_26])), (q_26, .inl (aC 1, 64, .inl (fun _ => 0))), (q_14, .inl (aC 0, 7, .inl (fun _ => 0))), (q_31, .inr (12, [.ref q_34, .ref q_35, .ref q_36, .ref q_37, .ref q_38, .ref q_39, .int 0, .int 0, .int 0, .ref q_40, .ref q_41, .ref q_42, .ref q_43, .int 0, .int 0, .int 0, .ref q_44, .int 0, .int 0, .int 0, .ref q_45, .ref q_46, .ref q_47, .ref q_48, .ref q_49, .ref q_50, .ref q_51, .ref q_52, .int 0, .ref q_53, .ref q_54, .ref q_55, .ref q_56])), (q_34, .inl (aC 0, 7, .inl (fun _ => 0))), (q_40, .inl (aC 0, 64, .inl (fun _ => 0)))] := hD.sub [0, 13, 14, 21, 22, 23, 29] (by decide) rfl
      refine lv_aload_n hx hb dL_law_164 rfl (lv_at hl 2 rfl) ?_
      refine lv_aload_n hx hb dL_law_165 rfl (lv_at hl 3 rfl) ?_
      refine lv_iload_n hx hb dL_law_166 rfl (lv_at hl 0 rfl) ?_
      refine lv_iconst (v := 1) hx hb dL_law_167 (by decide) ?_
      refine lv_iadd hx hb dL_law_168 ?_
      refine lv_topi (fun x_64 e_64 => ?_)
      have h9 : x_64 = 1 := by rw [e_64]; decide
      subst h9
      have h_65 : vp_in 1 5 := by first | assumption | (unfold vp_in; decide) | exact vp_in_nI (by omega) (by omega) | (subst_vars; first | (unfold vp_in; decide) | exact vp_in_nI (by omega) (by omega))
      refine va_sld hx hb hX hbl hbA hS h_65 dL_law_169 ?_
      refine lv_topi (fun x_66 e_66 => ?_)
      have h9 : x_66 = (xs 1) := by rw [e_66]; rfl
      subst h9
      have hPc := hP.sub (ws' := [(q_1, .inr (11, [.ref q_5, .ref q_6, .ref q_7, .ref q_8, .ref q_9, .ref q_10, .ref q_11, .ref q_12, .ref q_13, .ref q_14, .ref q_15, .int 0, .int 0, .int 1])), (q_10, .inr (7, [.int 0, .ref q_26])), (q_26, .inl (aC 1, 64, .inl (fun _ => 0))), (q_14, .inl (aC 0, 7, .inl (fun _ => 0)))]) [0, 1, 2, 3] rfl
      have hDc := hD.sub (ws' := [(q_1, .inr (11, [.ref q_5, .ref q_6, .ref q_7, .ref q_8, .ref q_9, .ref q_10, .ref q_11, .ref q_12, .ref q_13, .ref q_14, .ref q_15, .int 0, .int 0, .int 1])), (q_10, .inr (7, [.int 0, .ref q_26])), (q_26, .inl (aC 1, 64, .inl (fun _ => 0))), (q_14, .inl (aC 0, 7, .inl (fun _ => 0)))]) [0, 1, 2, 3] (by decide) rfl
      have hFc := va_free (wc := [(q_1, .inr (11, [.ref q_5, .ref q_6, .ref q_7, .ref q_8, .ref q_9, .ref q_10, .ref q_11, .ref q_12, .ref q_13, .ref q_14, .ref q_15, .int 0, .int 0, .int 1])), (q_10, .inr (7, [.int 0, .ref q_26])), (q_26, .inl (aC 1, 64, .inl (fun _ => 0))), (q_14, .inl (aC 0, 7, .inl (fun _ => 0)))]) hD hS hA [0, 1, 2, 3] rfl
      refine va_calli (va_runV (As := [.int (xs 1)]) (rest := []) ⟨hx, hb, hml, hown, hts⟩ (c_X11_feed_0 l dC dI aC H.size q_1 q_5 q_6 q_7 q_8 q_9 q_10 q_11 q_12 q_13 q_14 q_15 0 0 1 (fun _ => 0) q_26 (fun _ => 0) (xs 1) ) ⟨(callB_of 1 hts (gG kw_272) rfl rfl rfl (hts _ (gw kw_1 rfl)) (hts _ (gw kw_269 rfl)) (by decide +kernel) ⟨Nat.le_of_ble_eq_true rfl, Nat.le_of_ble_eq_true rfl⟩), (hts _ (gw kw_270 rfl)), (hts _ (gw kw_271 rfl))⟩ ⟨fun a U g mk q => by obtain ⟨q0, q1, qP, qK, qD, qN⟩ := q; exact ⟨q0, q1, qP, va_K.moved (u := U) (U := U.calling g mk a) (Vm.Alike.refl U.vm) qK, qD, NX.same (u := U) (U := U.calling g mk a) rfl qN⟩, va_recv hK hPc (ci := 11) (q0 := 0) rfl rfl, fun U hU hW => ⟨rfl, by rw [hU], by rw [hU]; exact hPc, va_K.moved hW.alike hK, hDc.weaken (fun _ _ _ _ => trivial), NX.warm hW hN⟩⟩ rfl rfl hl.1 rfl (lv_room (Nat.le_of_ble_eq_true rfl)) dL_law_170 ⟨Nat.le_of_ble_eq_true rfl, Nat.le_of_ble_eq_true rfl⟩) hS (fun q _ h => hFc q h) hFc (fun x_67 u t H1 locs ht hvm hw_67 hB hz1 hk1 hS => ?_)
      obtain ⟨hP1, hK1, hD1⟩ := hB
      rw [ht] at hP1
      clear hK1
      try dsimp only at hw_67
      obtain ⟨hP, hD⟩ := va_join (wr := [(q_31, .inr (12, [.ref q_34, .ref q_35, .ref q_36, .ref q_37, .ref q_38, .ref q_39, .int 0, .int 0, .int 0, .ref q_40, .ref q_41, .ref q_42, .ref q_43, .int 0, .int 0, .int 0, .ref q_44, .int 0, .int 0, .int 0, .ref q_45, .ref q_46, .ref q_47, .ref q_48, .ref q_49, .ref q_50, .ref q_51, .ref q_52, .int 0, .ref q_53, .ref q_54, .ref q_55, .ref q_56])), (q_34, .inl (aC 0, 7, .inl (fun _ => 0))), (q_40, .inl (aC 0, 64, .inl (fun _ => 0)))]) (w1 := []) hP hD [0, 1, 2, 3] [4, 5, 6] rfl rfl (by decide) (by decide) hk1 hFc hP1 hD1
      generalize H1 = H at hP hS ⊢
      have hP : va_P (dC, dI) classes [(q_31, .inr (12, [.ref q_34, .ref q_35, .ref q_36, .ref q_37, .ref q_38, .ref q_39, .int 0, .int 0, .int 0, .ref q_40, .ref q_41, .ref q_42, .ref q_43, .int 0, .int 0, .int 0, .ref q_44, .int 0, .int 0, .int 0, .ref q_45, .ref q_46, .ref q_47, .ref q_48, .ref q_49, .ref q_50, .ref q_51, .ref q_52, .int 0, .ref q_53, .ref q_54, .ref q_55, .ref q_56])), (q_34, .inl (aC 0, 7, .inl (fun _ => 0))), (q_40, .inl (aC 0, 64, .inl (fun _ => 0)))] H := hP
      have hD : va_D A [(q_31, .inr (12, [.ref q_34, .ref q_35, .ref q_36, .ref q_37, .ref q_38, .ref q_39, .int 0, .int 0, .int 0, .ref q_40, .ref q_41, .ref q_42, .ref q_43, .int 0, .int 0, .int 0, .ref q_44, .int 0, .int 0, .int 0, .ref q_45, .ref q_46, .ref q_47, .ref q_48, .ref q_49, .ref q_50, .ref q_51, .ref q_52, .int 0, .ref q_53, .ref q_54, .ref q_55, .ref q_56])), (q_34, .inl (aC 0, 7, .inl (fun _ => 0))), (q_40, .inl (aC 0, 64, .inl (fun _ => 0)))] := hD
      clear hPc hDc hFc hz1 hk1 hP1 hD1 ht hvm
      refine lv_aload_n hx hb dL_law_173 rfl (lv_at hl 1 rfl) ?_
      refine lv_aload_n hx hb dL_law_174 rfl (lv_at hl 3 rfl) ?_
      refine lv_iload_n hx hb dL_law_175 rfl (lv_at hl 0 rfl) ?_
      refine lv_iconst (v := 1) hx hb dL_law_176 (by decide) ?_
      refine lv_iadd hx hb dL_law_177 ?_
      refine lv_topi (fun x_68 e_68 => ?_)
      have h9 : x_68 = 1 := by rw [e_68]; decide
      subst h9
      have h_69 : vp_in 1 5 := by first | assumption | (unfold vp_in; decide) | exact vp_in_nI (by omega) (by omega) | (subst_vars; first | (unfold vp_in; decide) | exact vp_in_nI (by omega) (by omega))
      refine va_sld hx hb hX hbl hbA hS h_69 dL_law_178 ?_
      refine lv_topi (fun x_70 e_70 => ?_)
      have h9 : x_70 = (xs 1) := by rw [e_70]; rfl
      subst h9
      have hPc := hP.sub (ws' := [(q_31, .inr (12, [.ref q_34, .ref q_35, .ref q_36, .ref q_37, .ref q_38, .ref q_39, .int 0, .int 0, .int 0, .ref q_40, .ref q_41, .ref q_42, .ref q_43, .int 0, .int 0, .int 0, .ref q_44, .int 0, .int 0, .int 0, .ref q_45, .ref q_46, .ref q_47, .ref q_48, .ref q_49, .ref q_50, .ref q_51, .ref q_52, .int 0, .ref q_53, .ref q_54, .ref q_55, .ref q_56])), (q_40, .inl (aC 0, 64, .inl (fun _ => 0))), (q_34, .inl (aC 0, 7, .inl (fun _ => 0)))]) [0, 2, 1] rfl
      have hDc := hD.sub (ws' := [(q_31, .inr (12, [.ref q_34, .ref q_35, .ref q_36, .ref q_37, .ref q_38, .ref q_39, .int 0, .int 0, .int 0, .ref q_40, .ref q_41, .ref q_42, .ref q_43, .int 0, .int 0, .int 0, .ref q_44, .int 0, .int 0, .int 0, .ref q_45, .ref q_46, .ref q_47, .ref q_48, .ref q_49, .ref q_50, .ref q_51, .ref q_52, .int 0, .ref q_53, .ref q_54, .ref q_55, .ref q_56])), (q_40, .inl (aC 0, 64, .inl (fun _ => 0))), (q_34, .inl (aC 0, 7, .inl (fun _ => 0)))]) [0, 2, 1] (by decide) rfl
      have hFc := va_free (wc := [(q_31, .inr (12, [.ref q_34, .ref q_35, .ref q_36, .ref q_37, .ref q_38, .ref q_39, .int 0, .int 0, .int 0, .ref q_40, .ref q_41, .ref q_42, .ref q_43, .int 0, .int 0, .int 0, .ref q_44, .int 0, .int 0, .int 0, .ref q_45, .ref q_46, .ref q_47, .ref q_48, .ref q_49, .ref q_50, .ref q_51, .ref q_52, .int 0, .ref q_53, .ref q_54, .ref q_55, .ref q_56])), (q_40, .inl (aC 0, 64, .inl (fun _ => 0))), (q_34, .inl (aC 0, 7, .inl (fun _ => 0)))]) hD hS hA [0, 2, 1] rfl
      refine va_calli (va_runV (As := [.int (xs 1)]) (rest := [.int x_67]) ⟨hx, hb, hml, hown, hts⟩ (c_X12_feed_0 l dC dI aC H.size q_31 q_34 q_35 q_36 q_37 q_38 q_39 q_40 q_41 q_42 q_43 q_44 q_45 q_46 q_47 q_48 q_49 q_50 q_51 q_52 q_53 q_54 q_55 q_56 0 0 0 0 0 0 0 0 0 (fun _ => 0) (fun _ => 0) (xs 1) ) ⟨(callB_of 1 hts (gG kw_820) rfl rfl rfl (hts _ (gw kw_13 rfl)) (hts _ (gw kw_817 rfl)) (by decide +kernel) ⟨Nat.le_of_ble_eq_true rfl, Nat.le_of_ble_eq_true rfl⟩), (hts _ (gw kw_818 rfl)), (hts _ (gw kw_819 rfl))⟩ ⟨fun a U g mk q => by obtain ⟨q0, q1, qP, qK, qD, qN⟩ := q; exact ⟨q0, q1, qP, va_K.moved (u := U) (U := U.calling g mk a) (Vm.Alike.refl U.vm) qK, qD, NX.same (u := U) (U := U.calling g mk a) rfl qN⟩, va_recv hK hPc (ci := 12) (q0 := 0) rfl rfl, fun U hU hW => ⟨rfl, by rw [hU], by rw [hU]; exact hPc, va_K.moved hW.alike hK, hDc.weaken (fun _ _ _ _ => trivial), NX.warm hW hN⟩⟩ rfl rfl hl.1 rfl (lv_room (Nat.le_of_ble_eq_true rfl)) dL_law_179 ⟨Nat.le_of_ble_eq_true rfl, Nat.le_of_ble_eq_true rfl⟩) hS (fun q _ h => hFc q h) hFc (fun x_71 u t H1 locs ht hvm hw_71 hB hz1 hk1 hS => ?_)
      obtain ⟨hP1, hK1, hD1⟩ := hB
      rw [ht] at hP1
      clear hK1
      try dsimp only at hw_71
      obtain ⟨hP, hD⟩ := va_join (wr := []) (w1 := []) hP hD [0, 2, 1] [] rfl rfl (by decide) (by decide) hk1 hFc hP1 hD1
      generalize H1 = H at hP hS ⊢
      have hP : va_P (dC, dI) classes [] H := hP
      have hD : va_D A [] := hD
      clear hPc hDc hFc hz1 hk1 hP1 hD1 ht hvm
      refine lv_icmp_eq (tgt := 908) hx hb dL_law_182 (by decide) (fun c_72 => ?_) (fun c_72 => ?_)
      · obtain ⟨x_73, e_73⟩ : ∃ y : Int32, y = 0 + 5 := ⟨_, rfl⟩
        refine lv_iinc (v := x_73) (lv' := [(3, .int x_73), (2, .ref q_31), (1, .ref q_1), (0, .ref b)]) hx hb dL_law_908 hl (k := 0) rfl (by rw [e_73]; rfl) (by decide) rfl (fun ls hl => ?_)
        have h9 : x_73 = 5 := by rw [e_73]; decide
        subst h9
        refine lv_goto (tgt := 18) hx hb dL_law_911 (by decide) ?_
        refine lv_iload_n hx hb dL_law_18 rfl (lv_at hl 0 rfl) ?_
        refine lv_aload_n hx hb dL_law_19 rfl (lv_at hl 3 rfl) ?_
        refine va_slen hx hb hX hbl hbA hS dL_law_20 ?_
        refine lv_topi (fun x_74 e_74 => ?_)
        refine lv_iconst (v := 5) hx hb dL_law_21 (by decide) ?_
        refine lv_isub hx hb dL_law_22 ?_
        refine lv_topi (fun x_75 e_75 => ?_)
        refine lv_icmp_gt (tgt := 914) hx hb dL_law_23 (by decide) (fun c_76 => ?_) (fun c_76 => ?_)
        · refine lv_iconst (v := 1) hx hb dL_law_914 (by decide) ?_
          refine va_forget (fun q hq => by have := hS.2.2 q hq; rw [hAe] at this; exact this) ?_
          refine W.widen (k := 600000) (n := 7302250) (Nat.le_of_ble_eq_true rfl) (Nat.le_of_ble_eq_true rfl) ?_
          exact lw_ret hx hb hr hlocks dL_law_915
        · exact absurd (by rw [e_75, e_74]; decide) c_76
      · exact absurd (by rw [hw_67, hw_71]) c_72
    by_cases c_77 : x_62 = 1
    · refine lv_tableIn (tgt := 187) hx hb dL_law_32 (by rw [c_77]; decide) (by rw [c_77]; decide) (by rw [c_77]; rfl) (by decide) ?_
      have hP : va_P (dC, dI) classes [(q_1, .inr (11, [.ref q_5, .ref q_6, .ref q_7, .ref q_8, .ref q_9, .ref q_10, .ref q_11, .ref q_12, .ref q_13, .ref q_14, .ref q_15, .int 0, .int 0, .int 1])), (q_10, .inr (7, [.int 0, .ref q_26])), (q_31, .inr (12, [.ref q_34, .ref q_35, .ref q_36, .ref q_37, .ref q_38, .ref q_39, .int 0, .int 0, .int 0, .ref q_40, .ref q_41, .ref q_42, .ref q_43, .int 0, .int 0, .int 0, .ref q_44, .int 0, .int 0, .int 0, .ref q_45, .ref q_46, .ref q_47, .ref q_48, .ref q_49, .ref q_50, .ref q_51, .ref q_52, .int 0, .ref q_53, .ref q_54, .ref q_55, .ref q_56]))] H := hP.sub [0, 13, 22] rfl
      have hD : va_D A [(q_1, .inr (11, [.ref q_5, .ref q_6, .ref q_7, .ref q_8, .ref q_9, .ref q_10, .ref q_11, .ref q_12, .ref q_13, .ref q_14, .ref q_15, .int 0, .int 0, .int 1])), (q_10, .inr (7, [.int 0, .ref q_26])), (q_31, .inr (12, [.ref q_34, .ref q_35, .ref q_36, .ref q_37, .ref q_38, .ref q_39, .int 0, .int 0, .int 0, .ref q_40, .ref q_41, .ref q_42, .ref q_43, .int 0, .int 0, .int 0, .ref q_44, .int 0, .int 0, .int 0, .ref q_45, .ref q_46, .ref q_47, .ref q_48, .ref q_49, .ref q_50, .ref q_51, .ref q_52, .int 0, .ref q_53, .ref q_54, .ref q_55, .ref q_56]))] := hD.sub [0, 13, 22] (by decide) rfl
      refine lv_aload_n hx hb dL_law_187 rfl (lv_at hl 2 rfl) ?_
      have hPc := hP.sub (ws' := [(q_1, .inr (11, [.ref q_5, .ref q_6, .ref q_7, .ref q_8, .ref q_9, .ref q_10, .ref q_11, .ref q_12, .ref q_13, .ref q_14, .ref q_15, .int 0, .int 0, .int 1])), (q_10, .inr (7, [.int 0, .ref q_26]))]) [0, 1] rfl
      have hDc := hD.sub (ws' := [(q_1, .inr (11, [.ref q_5, .ref q_6, .ref q_7, .ref q_8, .ref q_9, .ref q_10, .ref q_11, .ref q_12, .ref q_13, .ref q_14, .ref q_15, .int 0, .int 0, .int 1])), (q_10, .inr (7, [.int 0, .ref q_26]))]) [0, 1] (by decide) rfl
      have hFc := va_free (wc := [(q_1, .inr (11, [.ref q_5, .ref q_6, .ref q_7, .ref q_8, .ref q_9, .ref q_10, .ref q_11, .ref q_12, .ref q_13, .ref q_14, .ref q_15, .int 0, .int 0, .int 1])), (q_10, .inr (7, [.int 0, .ref q_26]))]) hD hS hA [0, 1] rfl
      refine va_calli (va_runV (As := []) (rest := []) ⟨hx, hb, hml, hown, hts⟩ (c_X11_beach_0 l dC dI aC H.size q_1 q_5 q_6 q_7 q_8 q_9 q_10 q_11 q_12 q_13 q_14 q_15 0 0 1 q_26 ) ⟨(callB_of 0 hts (gG kw_288) rfl rfl rfl (hts _ (gw kw_1 rfl)) (hts _ (gw kw_285 rfl)) (by decide +kernel) ⟨Nat.le_of_ble_eq_true rfl, Nat.le_of_ble_eq_true rfl⟩), (hts _ (gw kw_286 rfl)), (hts _ (gw kw_287 rfl))⟩ ⟨fun a U g mk q => by obtain ⟨q0, q1, qP, qK, qD, qN⟩ := q; exact ⟨q0, q1, qP, va_K.moved (u := U) (U := U.calling g mk a) (Vm.Alike.refl U.vm) qK, qD, NX.same (u := U) (U := U.calling g mk a) rfl qN⟩, va_recv hK hPc (ci := 11) (q0 := 0) rfl rfl, fun U hU hW => ⟨rfl, by rw [hU], by rw [hU]; exact hPc, va_K.moved hW.alike hK, hDc.weaken (fun _ _ _ _ => trivial), NX.warm hW hN⟩⟩ rfl rfl hl.1 rfl (lv_room (Nat.le_of_ble_eq_true rfl)) dL_law_188 ⟨Nat.le_of_ble_eq_true rfl, Nat.le_of_ble_eq_true rfl⟩) hS (fun q _ h => hFc q h) hFc (fun x_78 u t H1 locs ht hvm hw_78 hB hz1 hk1 hS => ?_)
      obtain ⟨hP1, hK1, hD1⟩ := hB
      rw [ht] at hP1
      clear hK1
      try dsimp only at hw_78
      obtain ⟨hP, hD⟩ := va_join (wr := [(q_31, .inr (12, [.ref q_34, .ref q_35, .ref q_36, .ref q_37, .ref q_38, .ref q_39, .int 0, .int 0, .int 0, .ref q_40, .ref q_41, .ref q_42, .ref q_43, .int 0, .int 0, .int 0, .ref q_44, .int 0, .int 0, .int 0, .ref q_45, .ref q_46, .ref q_47, .ref q_48, .ref q_49, .ref q_50, .ref q_51, .ref q_52, .int 0, .ref q_53, .ref q_54, .ref q_55, .ref q_56]))]) (w1 := []) hP hD [0, 1] [2] rfl rfl (by decide) (by decide) hk1 hFc hP1 hD1
      generalize H1 = H at hP hS ⊢
      have hP : va_P (dC, dI) classes [(q_31, .inr (12, [.ref q_34, .ref q_35, .ref q_36, .ref q_37, .ref q_38, .ref q_39, .int 0, .int 0, .int 0, .ref q_40, .ref q_41, .ref q_42, .ref q_43, .int 0, .int 0, .int 0, .ref q_44, .int 0, .int 0, .int 0, .ref q_45, .ref q_46, .ref q_47, .ref q_48, .ref q_49, .ref q_50, .ref q_51, .ref q_52, .int 0, .ref q_53, .ref q_54, .ref q_55, .ref q_56]))] H := hP
      have hD : va_D A [(q_31, .inr (12, [.ref q_34, .ref q_35, .ref q_36, .ref q_37, .ref q_38, .ref q_39, .int 0, .int 0, .int 0, .ref q_40, .ref q_41, .ref q_42, .ref q_43, .int 0, .int 0, .int 0, .ref q_44, .int 0, .int 0, .int 0, .ref q_45, .ref q_46, .ref q_47, .ref q_48, .ref q_49, .ref q_50, .ref q_51, .ref q_52, .int 0, .ref q_53, .ref q_54, .ref q_55, .ref q_56]))] := hD
      clear hPc hDc hFc hz1 hk1 hP1 hD1 ht hvm
      refine lv_aload_n hx hb dL_law_191 rfl (lv_at hl 1 rfl) ?_
      have hPc := hP.sub (ws' := [(q_31, .inr (12, [.ref q_34, .ref q_35, .ref q_36, .ref q_37, .ref q_38, .ref q_39, .int 0, .int 0, .int 0, .ref q_40, .ref q_41, .ref q_42, .ref q_43, .int 0, .int 0, .int 0, .ref q_44, .int 0, .int 0, .int 0, .ref q_45, .ref q_46, .ref q_47, .ref q_48, .ref q_49, .ref q_50, .ref q_51, .ref q_52, .int 0, .ref q_53, .ref q_54, .ref q_55, .ref q_56]))]) [0] rfl
      have hDc := hD.sub (ws' := [(q_31, .inr (12, [.ref q_34, .ref q_35, .ref q_36, .ref q_37, .ref q_38, .ref q_39, .int 0, .int 0, .int 0, .ref q_40, .ref q_41, .ref q_42, .ref q_43, .int 0, .int 0, .int 0, .ref q_44, .int 0, .int 0, .int 0, .ref q_45, .ref q_46, .ref q_47, .ref q_48, .ref q_49, .ref q_50, .ref q_51, .ref q_52, .int 0, .ref q_53, .ref q_54, .ref q_55, .ref q_56]))]) [0] (by decide) rfl
      have hFc := va_free (wc := [(q_31, .inr (12, [.ref q_34, .ref q_35, .ref q_36, .ref q_37, .ref q_38, .ref q_39, .int 0, .int 0, .int 0, .ref q_40, .ref q_41, .ref q_42, .ref q_43, .int 0, .int 0, .int 0, .ref q_44, .int 0, .int 0, .int 0, .ref q_45, .ref q_46, .ref q_47, .ref q_48, .ref q_49, .ref q_50, .ref q_51, .ref q_52, .int 0, .ref q_53, .ref q_54, .ref q_55, .ref q_56]))]) hD hS hA [0] rfl
      refine va_calli (va_runV (As := []) (rest := [.int x_78]) ⟨hx, hb, hml, hown, hts⟩ (c_X12_beach_0 l dC dI aC H.size q_31 q_34 q_35 q_36 q_37 q_38 q_39 q_40 q_41 q_42 q_43 q_44 q_45 q_46 q_47 q_48 q_49 q_50 q_51 q_52 q_53 q_54 q_55 q_56 0 0 0 0 0 0 0 0 0 ) ⟨(callB_of 0 hts (gG kw_831) rfl rfl rfl (hts _ (gw kw_13 rfl)) (hts _ (gw kw_828 rfl)) (by decide +kernel) ⟨Nat.le_of_ble_eq_true rfl, Nat.le_of_ble_eq_true rfl⟩), (hts _ (gw kw_829 rfl)), (hts _ (gw kw_830 rfl))⟩ ⟨fun a U g mk q => by obtain ⟨q0, q1, qP, qK, qD, qN⟩ := q; exact ⟨q0, q1, qP, va_K.moved (u := U) (U := U.calling g mk a) (Vm.Alike.refl U.vm) qK, qD, NX.same (u := U) (U := U.calling g mk a) rfl qN⟩, va_recv hK hPc (ci := 12) (q0 := 0) rfl rfl, fun U hU hW => ⟨rfl, by rw [hU], by rw [hU]; exact hPc, va_K.moved hW.alike hK, hDc.weaken (fun _ _ _ _ => trivial), NX.warm hW hN⟩⟩ rfl rfl hl.1 rfl (lv_room (Nat.le_of_ble_eq_true rfl)) dL_law_192 ⟨Nat.le_of_ble_eq_true rfl, Nat.le_of_ble_eq_true rfl⟩) hS (fun q _ h => hFc q h) hFc (fun x_79 u t H1 locs ht hvm hw_79 hB hz1 hk1 hS => ?_)
      obtain ⟨hP1, hK1, hD1⟩ := hB
      rw [ht] at hP1
      clear hK1
      try dsimp only at hw_79
      obtain ⟨hP, hD⟩ := va_join (wr := []) (w1 := []) hP hD [0] [] rfl rfl (by decide) (by decide) hk1 hFc hP1 hD1
      generalize H1 = H at hP hS ⊢
      have hP : va_P (dC, dI) classes [] H := hP
      have hD : va_D A [] := hD
      clear hPc hDc hFc hz1 hk1 hP1 hD1 ht hvm
      refine lv_icmp_eq (tgt := 908) hx hb dL_law_195 (by decide) (fun c_80 => ?_) (fun c_80 => ?_)
      · obtain ⟨x_81, e_81⟩ : ∃ y : Int32, y = 0 + 5 := ⟨_, rfl⟩
        refine lv_iinc (v := x_81) (lv' := [(3, .int x_81), (2, .ref q_31), (1, .ref q_1), (0, .ref b)]) hx hb dL_law_908 hl (k := 0) rfl (by rw [e_81]; rfl) (by decide) rfl (fun ls hl => ?_)
        have h9 : x_81 = 5 := by rw [e_81]; decide
        subst h9
        refine lv_goto (tgt := 18) hx hb dL_law_911 (by decide) ?_
        refine lv_iload_n hx hb dL_law_18 rfl (lv_at hl 0 rfl) ?_
        refine lv_aload_n hx hb dL_law_19 rfl (lv_at hl 3 rfl) ?_
        refine va_slen hx hb hX hbl hbA hS dL_law_20 ?_
        refine lv_topi (fun x_82 e_82 => ?_)
        refine lv_iconst (v := 5) hx hb dL_law_21 (by decide) ?_
        refine lv_isub hx hb dL_law_22 ?_
        refine lv_topi (fun x_83 e_83 => ?_)
        refine lv_icmp_gt (tgt := 914) hx hb dL_law_23 (by decide) (fun c_84 => ?_) (fun c_84 => ?_)
        · refine lv_iconst (v := 1) hx hb dL_law_914 (by decide) ?_
          refine va_forget (fun q hq => by have := hS.2.2 q hq; rw [hAe] at this; exact this) ?_
          refine W.widen (k := 600000) (n := 7302250) (Nat.le_of_ble_eq_true rfl) (Nat.le_of_ble_eq_true rfl) ?_
          exact lw_ret hx hb hr hlocks dL_law_915
        · exact absurd (by rw [e_83, e_82]; decide) c_84
      · exact absurd (by rw [hw_78, hw_79]) c_80
    by_cases c_85 : x_62 = 2
    · refine lv_tableIn (tgt := 200) hx hb dL_law_32 (by rw [c_85]; decide) (by rw [c_85]; decide) (by rw [c_85]; rfl) (by decide) ?_
      have hP : va_P (dC, dI) classes [(q_1, .inr (11, [.ref q_5, .ref q_6, .ref q_7, .ref q_8, .ref q_9, .ref q_10, .ref q_11, .ref q_12, .ref q_13, .ref q_14, .ref q_15, .int 0, .int 0, .int 1])), (q_7, .inr (4, [.ref q_16, .ref q_17, .ref q_18, .ref q_19, .ref q_20, .int 0, .int 0, .int 0])), (q_14, .inl (aC 0, 7, .inl (fun _ => 0))), (q_31, .inr (12, [.ref q_34, .ref q_35, .ref q_36, .ref q_37, .ref q_38, .ref q_39, .int 0, .int 0, .int 0, .ref q_40, .ref q_41, .ref q_42, .ref q_43, .int 0, .int 0, .int 0, .ref q_44, .int 0, .int 0, .int 0, .ref q_45, .ref q_46, .ref q_47, .ref q_48, .ref q_49, .ref q_50, .ref q_51, .ref q_52, .int 0, .ref q_53, .ref q_54, .ref q_55, .ref q_56])), (q_34, .inl (aC 0, 7, .inl (fun _ => 0)))] H := hP.sub [0, 1, 21, 22, 23] rfl
      have hD : va_D A [(q_1, .inr (11, [.ref q_5, .ref q_6, .ref q_7, .ref q_8, .ref q_9, .ref q_10, .ref q_11, .ref q_12, .ref q_13, .ref q_14, .ref q_15, .int 0, .int 0, .int 1])), (q_7, .inr (4, [.ref q_16, .ref q_17, .ref q_18, .ref q_19, .ref q_20, .int 0, .int 0, .int 0])), (q_14, .inl (aC 0, 7, .inl (fun _ => 0))), (q_31, .inr (12, [.ref q_34, .ref q_35, .ref q_36, .ref q_37, .ref q_38, .ref q_39, .int 0, .int 0, .int 0, .ref q_40, .ref q_41, .ref q_42, .ref q_43, .int 0, .int 0, .int 0, .ref q_44, .int 0, .int 0, .int 0, .ref q_45, .ref q_46, .ref q_47, .ref q_48, .ref q_49, .ref q_50, .ref q_51, .ref q_52, .int 0, .ref q_53, .ref q_54, .ref q_55, .ref q_56])), (q_34, .inl (aC 0, 7, .inl (fun _ => 0)))] := hD.sub [0, 1, 21, 22, 23] (by decide) rfl
      refine lv_aload_n hx hb dL_law_200 rfl (lv_at hl 2 rfl) ?_
      refine lv_aload_n hx hb dL_law_201 rfl (lv_at hl 3 rfl) ?_
      refine lv_iload_n hx hb dL_law_202 rfl (lv_at hl 0 rfl) ?_
      refine lv_iconst (v := 1) hx hb dL_law_203 (by decide) ?_
      refine lv_iadd hx hb dL_law_204 ?_
      refine lv_topi (fun x_86 e_86 => ?_)
      have h9 : x_86 = 1 := by rw [e_86]; decide
      subst h9
      have h_87 : vp_in 1 5 := by first | assumption | (unfold vp_in; decide) | exact vp_in_nI (by omega) (by omega) | (subst_vars; first | (unfold vp_in; decide) | exact vp_in_nI (by omega) (by omega))
      refine va_sld hx hb hX hbl hbA hS h_87 dL_law_205 ?_
      refine lv_topi (fun x_88 e_88 => ?_)
      have h9 : x_88 = (xs 1) := by rw [e_88]; rfl
      subst h9
      refine lv_aload_n hx hb dL_law_206 rfl (lv_at hl 3 rfl) ?_
      refine lv_iload_n hx hb dL_law_207 rfl (lv_at hl 0 rfl) ?_
      refine lv_iconst (v := 2) hx hb dL_law_208 (by decide) ?_
      refine lv_iadd hx hb dL_law_209 ?_
      refine lv_topi (fun x_89 e_89 => ?_)
      have h9 : x_89 = 2 := by rw [e_89]; decide
      subst h9
      have h_90 : vp_in 2 5 := by first | assumption | (unfold vp_in; decide) | exact vp_in_nI (by omega) (by omega) | (subst_vars; first | (unfold vp_in; decide) | exact vp_in_nI (by omega) (by omega))
      refine va_sld hx hb hX hbl hbA hS h_90 dL_law_210 ?_
      refine lv_topi (fun x_91 e_91 => ?_)
      have h9 : x_91 = (xs 2) := by rw [e_91]; rfl
      subst h9
      have hPc := hP.sub (ws' := [(q_1, .inr (11, [.ref q_5, .ref q_6, .ref q_7, .ref q_8, .ref q_9, .ref q_10, .ref q_11, .ref q_12, .ref q_13, .ref q_14, .ref q_15, .int 0, .int 0, .int 1])), (q_7, .inr (4, [.ref q_16, .ref q_17, .ref q_18, .ref q_19, .ref q_20, .int 0, .int 0, .int 0])), (q_14, .inl (aC 0, 7, .inl (fun _ => 0)))]) [0, 1, 2] rfl
      have hDc := hD.sub (ws' := [(q_1, .inr (11, [.ref q_5, .ref q_6, .ref q_7, .ref q_8, .ref q_9, .ref q_10, .ref q_11, .ref q_12, .ref q_13, .ref q_14, .ref q_15, .int 0, .int 0, .int 1])), (q_7, .inr (4, [.ref q_16, .ref q_17, .ref q_18, .ref q_19, .ref q_20, .int 0, .int 0, .int 0])), (q_14, .inl (aC 0, 7, .inl (fun _ => 0)))]) [0, 1, 2] (by decide) rfl
      have hFc := va_free (wc := [(q_1, .inr (11, [.ref q_5, .ref q_6, .ref q_7, .ref q_8, .ref q_9, .ref q_10, .ref q_11, .ref q_12, .ref q_13, .ref q_14, .ref q_15, .int 0, .int 0, .int 1])), (q_7, .inr (4, [.ref q_16, .ref q_17, .ref q_18, .ref q_19, .ref q_20, .int 0, .int 0, .int 0])), (q_14, .inl (aC 0, 7, .inl (fun _ => 0)))]) hD hS hA [0, 1, 2] rfl
      refine va_calli (va_runV (As := [.int (xs 1), .int (xs 2)]) (rest := []) ⟨hx, hb, hml, hown, hts⟩ (c_X11_man_r l dC dI aC H.size q_1 q_5 q_6 q_7 q_8 q_9 q_10 q_11 q_12 q_13 q_14 q_15 0 0 1 q_16 q_17 q_18 q_19 q_20 0 0 0 (fun _ => 0) (xs 1) (xs 2) (no0 _)) ⟨(callB_of 2 hts (gG kw_336) rfl rfl rfl (hts _ (gw kw_1 rfl)) (hts _ (gw kw_333 rfl)) (by decide +kernel) ⟨Nat.le_of_ble_eq_true rfl, Nat.le_of_ble_eq_true rfl⟩), (hts _ (gw kw_334 rfl)), (hts _ (gw kw_335 rfl))⟩ ⟨fun a U g mk q => by obtain ⟨q0, q1, qP, qK, qD, qN⟩ := q; exact ⟨q0, q1, qP, va_K.moved (u := U) (U := U.calling g mk a) (Vm.Alike.refl U.vm) qK, qD, NX.same (u := U) (U := U.calling g mk a) rfl qN⟩, va_recv hK hPc (ci := 11) (q0 := 0) rfl rfl, fun U hU hW => ⟨rfl, by rw [hU], by rw [hU]; exact hPc, va_K.moved hW.alike hK, hDc.weaken (fun _ _ _ _ => trivial), NX.warm hW hN⟩⟩ rfl rfl hl.1 rfl (lv_room (Nat.le_of_ble_eq_true rfl)) dL_law_211 ⟨Nat.le_of_ble_eq_true rfl, Nat.le_of_ble_eq_true rfl⟩) hS (fun q _ h => hFc q h) hFc (fun x_92 u t H1 locs ht hvm hw_92 hB hz1 hk1 hS => ?_)
      obtain ⟨hP1, hK1, hD1⟩ := hB
      rw [ht] at hP1
      clear hK1
      try dsimp only at hw_92
      obtain ⟨hP, hD⟩ := va_join (wr := [(q_31, .inr (12, [.ref q_34, .ref q_35, .ref q_36, .ref q_37, .ref q_38, .ref q_39, .int 0, .int 0, .int 0, .ref q_40, .ref q_41, .ref q_42, .ref q_43, .int 0, .int 0, .int 0, .ref q_44, .int 0, .int 0, .int 0, .ref q_45, .ref q_46, .ref q_47, .ref q_48, .ref q_49, .ref q_50, .ref q_51, .ref q_52, .int 0, .ref q_53, .ref q_54, .ref q_55, .ref q_56])), (q_34, .inl (aC 0, 7, .inl (fun _ => 0)))]) (w1 := []) hP hD [0, 1, 2] [3, 4] rfl rfl (by decide) (by decide) hk1 hFc hP1 hD1
      generalize H1 = H at hP hS ⊢
      have hP : va_P (dC, dI) classes [(q_31, .inr (12, [.ref q_34, .ref q_35, .ref q_36, .ref q_37, .ref q_38, .ref q_39, .int 0, .int 0, .int 0, .ref q_40, .ref q_41, .ref q_42, .ref q_43, .int 0, .int 0, .int 0, .ref q_44, .int 0, .int 0, .int 0, .ref q_45, .ref q_46, .ref q_47, .ref q_48, .ref q_49, .ref q_50, .ref q_51, .ref q_52, .int 0, .ref q_53, .ref q_54, .ref q_55, .ref q_56])), (q_34, .inl (aC 0, 7, .inl (fun _ => 0)))] H := hP
      have hD : va_D A [(q_31, .inr (12, [.ref q_34, .ref q_35, .ref q_36, .ref q_37, .ref q_38, .ref q_39, .int 0, .int 0, .int 0, .ref q_40, .ref q_41, .ref q_42, .ref q_43, .int 0, .int 0, .int 0, .ref q_44, .int 0, .int 0, .int 0, .ref q_45, .ref q_46, .ref q_47, .ref q_48, .ref q_49, .ref q_50, .ref q_51, .ref q_52, .int 0, .ref q_53, .ref q_54, .ref q_55, .ref q_56])), (q_34, .inl (aC 0, 7, .inl (fun _ => 0)))] := hD
      clear hPc hDc hFc hz1 hk1 hP1 hD1 ht hvm
      refine lv_aload_n hx hb dL_law_214 rfl (lv_at hl 1 rfl) ?_
      refine lv_aload_n hx hb dL_law_215 rfl (lv_at hl 3 rfl) ?_
      refine lv_iload_n hx hb dL_law_216 rfl (lv_at hl 0 rfl) ?_
      refine lv_iconst (v := 1) hx hb dL_law_217 (by decide) ?_
      refine lv_iadd hx hb dL_law_218 ?_
      refine lv_topi (fun x_93 e_93 => ?_)
      have h9 : x_93 = 1 := by rw [e_93]; decide
      subst h9
      have h_94 : vp_in 1 5 := by first | assumption | (unfold vp_in; decide) | exact vp_in_nI (by omega) (by omega) | (subst_vars; first | (unfold vp_in; decide) | exact vp_in_nI (by omega) (by omega))
      refine va_sld hx hb hX hbl hbA hS h_94 dL_law_219 ?_
      refine lv_topi (fun x_95 e_95 => ?_)
      have h9 : x_95 = (xs 1) := by rw [e_95]; rfl
      subst h9
      refine lv_aload_n hx hb dL_law_220 rfl (lv_at hl 3 rfl) ?_
      refine lv_iload_n hx hb dL_law_221 rfl (lv_at hl 0 rfl) ?_
      refine lv_iconst (v := 2) hx hb dL_law_222 (by decide) ?_
      refine lv_iadd hx hb dL_law_223 ?_
      refine lv_topi (fun x_96 e_96 => ?_)
      have h9 : x_96 = 2 := by rw [e_96]; decide
      subst h9
      have h_97 : vp_in 2 5 := by first | assumption | (unfold vp_in; decide) | exact vp_in_nI (by omega) (by omega) | (subst_vars; first | (unfold vp_in; decide) | exact vp_in_nI (by omega) (by omega))
      refine va_sld hx hb hX hbl hbA hS h_97 dL_law_224 ?_
      refine lv_topi (fun x_98 e_98 => ?_)
      have h9 : x_98 = (xs 2) := by rw [e_98]; rfl
      subst h9
      have hPc := hP.sub (ws' := [(q_31, .inr (12, [.ref q_34, .ref q_35, .ref q_36, .ref q_37, .ref q_38, .ref q_39, .int 0, .int 0, .int 0, .ref q_40, .ref q_41, .ref q_42, .ref q_43, .int 0, .int 0, .int 0, .ref q_44, .int 0, .int 0, .int 0, .ref q_45, .ref q_46, .ref q_47, .ref q_48, .ref q_49, .ref q_50, .ref q_51, .ref q_52, .int 0, .ref q_53, .ref q_54, .ref q_55, .ref q_56])), (q_34, .inl (aC 0, 7, .inl (fun _ => 0)))]) [0, 1] rfl
      have hDc := hD.sub (ws' := [(q_31, .inr (12, [.ref q_34, .ref q_35, .ref q_36, .ref q_37, .ref q_38, .ref q_39, .int 0, .int 0, .int 0, .ref q_40, .ref q_41, .ref q_42, .ref q_43, .int 0, .int 0, .int 0, .ref q_44, .int 0, .int 0, .int 0, .ref q_45, .ref q_46, .ref q_47, .ref q_48, .ref q_49, .ref q_50, .ref q_51, .ref q_52, .int 0, .ref q_53, .ref q_54, .ref q_55, .ref q_56])), (q_34, .inl (aC 0, 7, .inl (fun _ => 0)))]) [0, 1] (by decide) rfl
      have hFc := va_free (wc := [(q_31, .inr (12, [.ref q_34, .ref q_35, .ref q_36, .ref q_37, .ref q_38, .ref q_39, .int 0, .int 0, .int 0, .ref q_40, .ref q_41, .ref q_42, .ref q_43, .int 0, .int 0, .int 0, .ref q_44, .int 0, .int 0, .int 0, .ref q_45, .ref q_46, .ref q_47, .ref q_48, .ref q_49, .ref q_50, .ref q_51, .ref q_52, .int 0, .ref q_53, .ref q_54, .ref q_55, .ref q_56])), (q_34, .inl (aC 0, 7, .inl (fun _ => 0)))]) hD hS hA [0, 1] rfl
      refine va_calli (va_runV (As := [.int (xs 1), .int (xs 2)]) (rest := [.int x_92]) ⟨hx, hb, hml, hown, hts⟩ (c_X12_man_r l dC dI aC H.size q_31 q_34 q_35 q_36 q_37 q_38 q_39 q_40 q_41 q_42 q_43 q_44 q_45 q_46 q_47 q_48 q_49 q_50 q_51 q_52 q_53 q_54 q_55 q_56 0 0 0 0 0 0 0 0 0 0 (fun _ => 0) (xs 1) (xs 2) (no0 _)) ⟨(callB_of 2 hts (gG kw_874) rfl rfl rfl (hts _ (gw kw_13 rfl)) (hts _ (gw kw_871 rfl)) (by decide +kernel) ⟨Nat.le_of_ble_eq_true rfl, Nat.le_of_ble_eq_true rfl⟩), (hts _ (gw kw_872 rfl)), (hts _ (gw kw_873 rfl))⟩ ⟨fun a U g mk q => by obtain ⟨q0, q1, qP, qK, qD, qN⟩ := q; exact ⟨q0, q1, qP, va_K.moved (u := U) (U := U.calling g mk a) (Vm.Alike.refl U.vm) qK, qD, NX.same (u := U) (U := U.calling g mk a) rfl qN⟩, va_recv hK hPc (ci := 12) (q0 := 0) rfl rfl, fun U hU hW => ⟨rfl, by rw [hU], by rw [hU]; exact hPc, va_K.moved hW.alike hK, hDc.weaken (fun _ _ _ _ => trivial), NX.warm hW hN⟩⟩ rfl rfl hl.1 rfl (lv_room (Nat.le_of_ble_eq_true rfl)) dL_law_225 ⟨Nat.le_of_ble_eq_true rfl, Nat.le_of_ble_eq_true rfl⟩) hS (fun q _ h => hFc q h) hFc (fun x_99 u t H1 locs ht hvm hw_99 hB hz1 hk1 hS => ?_)
      obtain ⟨hP1, hK1, hD1⟩ := hB
      rw [ht] at hP1
      clear hK1
      try dsimp only at hw_99
      obtain ⟨hP, hD⟩ := va_join (wr := []) (w1 := []) hP hD [0, 1] [] rfl rfl (by decide) (by decide) hk1 hFc hP1 hD1
      generalize H1 = H at hP hS ⊢
      have hP : va_P (dC, dI) classes [] H := hP
      have hD : va_D A [] := hD
      clear hPc hDc hFc hz1 hk1 hP1 hD1 ht hvm
      refine lv_icmp_eq (tgt := 908) hx hb dL_law_228 (by decide) (fun c_100 => ?_) (fun c_100 => ?_)
      · obtain ⟨x_101, e_101⟩ : ∃ y : Int32, y = 0 + 5 := ⟨_, rfl⟩
        refine lv_iinc (v := x_101) (lv' := [(3, .int x_101), (2, .ref q_31), (1, .ref q_1), (0, .ref b)]) hx hb dL_law_908 hl (k := 0) rfl (by rw [e_101]; rfl) (by decide) rfl (fun ls hl => ?_)
        have h9 : x_101 = 5 := by rw [e_101]; decide
        subst h9
        refine lv_goto (tgt := 18) hx hb dL_law_911 (by decide) ?_
        refine lv_iload_n hx hb dL_law_18 rfl (lv_at hl 0 rfl) ?_
        refine lv_aload_n hx hb dL_law_19 rfl (lv_at hl 3 rfl) ?_
        refine va_slen hx hb hX hbl hbA hS dL_law_20 ?_
        refine lv_topi (fun x_102 e_102 => ?_)
        refine lv_iconst (v := 5) hx hb dL_law_21 (by decide) ?_
        refine lv_isub hx hb dL_law_22 ?_
        refine lv_topi (fun x_103 e_103 => ?_)
        refine lv_icmp_gt (tgt := 914) hx hb dL_law_23 (by decide) (fun c_104 => ?_) (fun c_104 => ?_)
        · refine lv_iconst (v := 1) hx hb dL_law_914 (by decide) ?_
          refine va_forget (fun q hq => by have := hS.2.2 q hq; rw [hAe] at this; exact this) ?_
          refine W.widen (k := 600000) (n := 7302250) (Nat.le_of_ble_eq_true rfl) (Nat.le_of_ble_eq_true rfl) ?_
          exact lw_ret hx hb hr hlocks dL_law_915
        · exact absurd (by rw [e_103, e_102]; decide) c_104
      · exact absurd (by rw [hw_92, hw_99]) c_100
    by_cases c_105 : x_62 = 3
    · refine lv_tableIn (tgt := 233) hx hb dL_law_32 (by rw [c_105]; decide) (by rw [c_105]; decide) (by rw [c_105]; rfl) (by decide) ?_
      have hP : va_P (dC, dI) classes [(q_1, .inr (11, [.ref q_5, .ref q_6, .ref q_7, .ref q_8, .ref q_9, .ref q_10, .ref q_11, .ref q_12, .ref q_13, .ref q_14, .ref q_15, .int 0, .int 0, .int 1])), (q_7, .inr (4, [.ref q_16, .ref q_17, .ref q_18, .ref q_19, .ref q_20, .int 0, .int 0, .int 0])), (q_20, .inl (aC 0, 5, .inl SET0)), (q_14, .inl (aC 0, 7, .inl (fun _ => 0))), (q_31, .inr (12, [.ref q_34, .ref q_35, .ref q_36, .ref q_37, .ref q_38, .ref q_39, .int 0, .int 0, .int 0, .ref q_40, .ref q_41, .ref q_42, .ref q_43, .int 0, .int 0, .int 0, .ref q_44, .int 0, .int 0, .int 0, .ref q_45, .ref q_46, .ref q_47, .ref q_48, .ref q_49, .ref q_50, .ref q_51, .ref q_52, .int 0, .ref q_53, .ref q_54, .ref q_55, .ref q_56])), (q_34, .inl (aC 0, 7, .inl (fun _ => 0))), (q_39, .inl (aC 0, 5, .inl SET0))] H := hP.sub [0, 1, 6, 21, 22, 23, 28] rfl
      have hD : va_D A [(q_1, .inr (11, [.ref q_5, .ref q_6, .ref q_7, .ref q_8, .ref q_9, .ref q_10, .ref q_11, .ref q_12, .ref q_13, .ref q_14, .ref q_15, .int 0, .int 0, .int 1])), (q_7, .inr (4, [.ref q_16, .ref q_17, .ref q_18, .ref q_19, .ref q_20, .int 0, .int 0, .int 0])), (q_20, .inl (aC 0, 5, .inl SET0)), (q_14, .inl (aC 0, 7, .inl (fun _ => 0))), (q_31, .inr (12, [.ref q_34, .ref q_35, .ref q_36, .ref q_37, .ref q_38, .ref q_39, .int 0, .int 0, .int 0, .ref q_40, .ref q_41, .ref q_42, .ref q_43, .int 0, .int 0, .int 0, .ref q_44, .int 0, .int 0, .int 0, .ref q_45, .ref q_46, .ref q_47, .ref q_48, .ref q_49, .ref q_50, .ref q_51, .ref q_52, .int 0, .ref q_53, .ref q_54, .ref q_55, .ref q_56])), (q_34, .inl (aC 0, 7, .inl (fun _ => 0))), (q_39, .inl (aC 0, 5, .inl SET0))] := hD.sub [0, 1, 6, 21, 22, 23, 28] (by decide) rfl
      refine lv_aload_n hx hb dL_law_233 rfl (lv_at hl 2 rfl) ?_
      refine lv_aload_n hx hb dL_law_234 rfl (lv_at hl 3 rfl) ?_
      refine lv_iload_n hx hb dL_law_235 rfl (lv_at hl 0 rfl) ?_
      refine lv_iconst (v := 1) hx hb dL_law_236 (by decide) ?_
      refine lv_iadd hx hb dL_law_237 ?_
      refine lv_topi (fun x_106 e_106 => ?_)
      have h9 : x_106 = 1 := by rw [e_106]; decide
      subst h9
      have h_107 : vp_in 1 5 := by first | assumption | (unfold vp_in; decide) | exact vp_in_nI (by omega) (by omega) | (subst_vars; first | (unfold vp_in; decide) | exact vp_in_nI (by omega) (by omega))
      refine va_sld hx hb hX hbl hbA hS h_107 dL_law_238 ?_
      refine lv_topi (fun x_108 e_108 => ?_)
      have h9 : x_108 = (xs 1) := by rw [e_108]; rfl
      subst h9
      refine lv_aload_n hx hb dL_law_239 rfl (lv_at hl 3 rfl) ?_
      refine lv_iload_n hx hb dL_law_240 rfl (lv_at hl 0 rfl) ?_
      refine lv_iconst (v := 2) hx hb dL_law_241 (by decide) ?_
      refine lv_iadd hx hb dL_law_242 ?_
      refine lv_topi (fun x_109 e_109 => ?_)
      have h9 : x_109 = 2 := by rw [e_109]; decide
      subst h9
      have h_110 : vp_in 2 5 := by first | assumption | (unfold vp_in; decide) | exact vp_in_nI (by omega) (by omega) | (subst_vars; first | (unfold vp_in; decide) | exact vp_in_nI (by omega) (by omega))
      refine va_sld hx hb hX hbl hbA hS h_110 dL_law_243 ?_
      refine lv_topi (fun x_111 e_111 => ?_)
      have h9 : x_111 = (xs 2) := by rw [e_111]; rfl
      subst h9
      have hPc := hP.sub (ws' := [(q_1, .inr (11, [.ref q_5, .ref q_6, .ref q_7, .ref q_8, .ref q_9, .ref q_10, .ref q_11, .ref q_12, .ref q_13, .ref q_14, .ref q_15, .int 0, .int 0, .int 1])), (q_7, .inr (4, [.ref q_16, .ref q_17, .ref q_18, .ref q_19, .ref q_20, .int 0, .int 0, .int 0])), (q_20, .inl (aC 0, 5, .inl SET0)), (q_14, .inl (aC 0, 7, .inl (fun _ => 0)))]) [0, 1, 2, 3] rfl
      have hDc := hD.sub (ws' := [(q_1, .inr (11, [.ref q_5, .ref q_6, .ref q_7, .ref q_8, .ref q_9, .ref q_10, .ref q_11, .ref q_12, .ref q_13, .ref q_14, .ref q_15, .int 0, .int 0, .int 1])), (q_7, .inr (4, [.ref q_16, .ref q_17, .ref q_18, .ref q_19, .ref q_20, .int 0, .int 0, .int 0])), (q_20, .inl (aC 0, 5, .inl SET0)), (q_14, .inl (aC 0, 7, .inl (fun _ => 0)))]) [0, 1, 2, 3] (by decide) rfl
      have hFc := va_free (wc := [(q_1, .inr (11, [.ref q_5, .ref q_6, .ref q_7, .ref q_8, .ref q_9, .ref q_10, .ref q_11, .ref q_12, .ref q_13, .ref q_14, .ref q_15, .int 0, .int 0, .int 1])), (q_7, .inr (4, [.ref q_16, .ref q_17, .ref q_18, .ref q_19, .ref q_20, .int 0, .int 0, .int 0])), (q_20, .inl (aC 0, 5, .inl SET0)), (q_14, .inl (aC 0, 7, .inl (fun _ => 0)))]) hD hS hA [0, 1, 2, 3] rfl
      refine va_calli (va_runV (As := [.int (xs 1), .int (xs 2)]) (rest := []) ⟨hx, hb, hml, hown, hts⟩ (c_X11_set l dC dI aC H.size q_1 q_5 q_6 q_7 q_8 q_9 q_10 q_11 q_12 q_13 q_14 q_15 0 0 1 q_16 q_17 q_18 q_19 q_20 0 0 0 (fun _ => 0) SET0 (xs 1) (xs 2) tG ) ⟨(callB_of 2 hts (gG kw_344) rfl rfl rfl (hts _ (gw kw_1 rfl)) (hts _ (gw kw_341 rfl)) (by decide +kernel) ⟨Nat.le_of_ble_eq_true rfl, Nat.le_of_ble_eq_true rfl⟩), (hts _ (gw kw_342 rfl)), (hts _ (gw kw_343 rfl))⟩ ⟨fun a U g mk q => by obtain ⟨q0, q1, qP, qK, qD, qN, z0, z1⟩ := q; exact ⟨q0, q1, qP, va_K.moved (u := U) (U := U.calling g mk a) (Vm.Alike.refl U.vm) qK, qD, NX.same (u := U) (U := U.calling g mk a) rfl qN, va_Z.moved (u := U) (U := U.calling g mk a) (Vm.Alike.refl U.vm) z0, va_T.moved (u := U) (U := U.calling g mk a) (Vm.Alike.refl U.vm) z1⟩, va_recv hK hPc (ci := 11) (q0 := 0) rfl rfl, fun U hU hW => ⟨rfl, by rw [hU], by rw [hU]; exact hPc, va_K.moved hW.alike hK, hDc.weaken (fun _ _ _ _ => trivial), NX.warm hW hN, by rw [hU]; exact va_Z.moved hW.alike (va_Z.narrow (va_Z.kept hZG hS.2.1) hFc), by rw [hU]; exact va_T.moved hW.alike (va_T.narrow (va_T.kept hTG hS.2.1) hFc)⟩⟩ rfl rfl hl.1 rfl (lv_room (Nat.le_of_ble_eq_true rfl)) dL_law_244 ⟨Nat.le_of_ble_eq_true rfl, Nat.le_of_ble_eq_true rfl⟩) hS (fun q _ h => hFc q h) hFc (fun x_112 u t H1 locs ht hvm hw_112 hB hz1 hk1 hS => ?_)
      obtain ⟨hP1, hK1, hD1⟩ := hB
      rw [ht] at hP1
      clear hK1
      try dsimp only at hw_112
      obtain ⟨hP, hD⟩ := va_join (wr := [(q_31, .inr (12, [.ref q_34, .ref q_35, .ref q_36, .ref q_37, .ref q_38, .ref q_39, .int 0, .int 0, .int 0, .ref q_40, .ref q_41, .ref q_42, .ref q_43, .int 0, .int 0, .int 0, .ref q_44, .int 0, .int 0, .int 0, .ref q_45, .ref q_46, .ref q_47, .ref q_48, .ref q_49, .ref q_50, .ref q_51, .ref q_52, .int 0, .ref q_53, .ref q_54, .ref q_55, .ref q_56])), (q_34, .inl (aC 0, 7, .inl (fun _ => 0))), (q_39, .inl (aC 0, 5, .inl SET0))]) (w1 := []) hP hD [0, 1, 2, 3] [4, 5, 6] rfl rfl (by decide) (by decide) hk1 hFc hP1 hD1
      generalize H1 = H at hP hS ⊢
      have hP : va_P (dC, dI) classes [(q_31, .inr (12, [.ref q_34, .ref q_35, .ref q_36, .ref q_37, .ref q_38, .ref q_39, .int 0, .int 0, .int 0, .ref q_40, .ref q_41, .ref q_42, .ref q_43, .int 0, .int 0, .int 0, .ref q_44, .int 0, .int 0, .int 0, .ref q_45, .ref q_46, .ref q_47, .ref q_48, .ref q_49, .ref q_50, .ref q_51, .ref q_52, .int 0, .ref q_53, .ref q_54, .ref q_55, .ref q_56])), (q_34, .inl (aC 0, 7, .inl (fun _ => 0))), (q_39, .inl (aC 0, 5, .inl SET0))] H := hP
      have hD : va_D A [(q_31, .inr (12, [.ref q_34, .ref q_35, .ref q_36, .ref q_37, .ref q_38, .ref q_39, .int 0, .int 0, .int 0, .ref q_40, .ref q_41, .ref q_42, .ref q_43, .int 0, .int 0, .int 0, .ref q_44, .int 0, .int 0, .int 0, .ref q_45, .ref q_46, .ref q_47, .ref q_48, .ref q_49, .ref q_50, .ref q_51, .ref q_52, .int 0, .ref q_53, .ref q_54, .ref q_55, .ref q_56])), (q_34, .inl (aC 0, 7, .inl (fun _ => 0))), (q_39, .inl (aC 0, 5, .inl SET0))] := hD
      clear hPc hDc hFc hz1 hk1 hP1 hD1 ht hvm
      refine lv_aload_n hx hb dL_law_247 rfl (lv_at hl 1 rfl) ?_
      refine lv_aload_n hx hb dL_law_248 rfl (lv_at hl 3 rfl) ?_
      refine lv_iload_n hx hb dL_law_249 rfl (lv_at hl 0 rfl) ?_
      refine lv_iconst (v := 1) hx hb dL_law_250 (by decide) ?_
      refine lv_iadd hx hb dL_law_251 ?_
      refine lv_topi (fun x_113 e_113 => ?_)
      have h9 : x_113 = 1 := by rw [e_113]; decide
      subst h9
      have h_114 : vp_in 1 5 := by first | assumption | (unfold vp_in; decide) | exact vp_in_nI (by omega) (by omega) | (subst_vars; first | (unfold vp_in; decide) | exact vp_in_nI (by omega) (by omega))
      refine va_sld hx hb hX hbl hbA hS h_114 dL_law_252 ?_
      refine lv_topi (fun x_115 e_115 => ?_)
      have h9 : x_115 = (xs 1) := by rw [e_115]; rfl
      subst h9
      refine lv_aload_n hx hb dL_law_253 rfl (lv_at hl 3 rfl) ?_
      refine lv_iload_n hx hb dL_law_254 rfl (lv_at hl 0 rfl) ?_
      refine lv_iconst (v := 2) hx hb dL_law_255 (by decide) ?_
      refine lv_iadd hx hb dL_law_256 ?_
      refine lv_topi (fun x_116 e_116 => ?_)
      have h9 : x_116 = 2 := by rw [e_116]; decide
      subst h9
      have h_117 : vp_in 2 5 := by first | assumption | (unfold vp_in; decide) | exact vp_in_nI (by omega) (by omega) | (subst_vars; first | (unfold vp_in; decide) | exact vp_in_nI (by omega) (by omega))
      refine va_sld hx hb hX hbl hbA hS h_117 dL_law_257 ?_
      refine lv_topi (fun x_118 e_118 => ?_)
      have h9 : x_118 = (xs 2) := by rw [e_118]; rfl
      subst h9
      have hPc := hP.sub (ws' := [(q_31, .inr (12, [.ref q_34, .ref q_35, .ref q_36, .ref q_37, .ref q_38, .ref q_39, .int 0, .int 0, .int 0, .ref q_40, .ref q_41, .ref q_42, .ref q_43, .int 0, .int 0, .int 0, .ref q_44, .int 0, .int 0, .int 0, .ref q_45, .ref q_46, .ref q_47, .ref q_48, .ref q_49, .ref q_50, .ref q_51, .ref q_52, .int 0, .ref q_53, .ref q_54, .ref q_55, .ref q_56])), (q_39, .inl (aC 0, 5, .inl SET0)), (q_34, .inl (aC 0, 7, .inl (fun _ => 0)))]) [0, 2, 1] rfl
      have hDc := hD.sub (ws' := [(q_31, .inr (12, [.ref q_34, .ref q_35, .ref q_36, .ref q_37, .ref q_38, .ref q_39, .int 0, .int 0, .int 0, .ref q_40, .ref q_41, .ref q_42, .ref q_43, .int 0, .int 0, .int 0, .ref q_44, .int 0, .int 0, .int 0, .ref q_45, .ref q_46, .ref q_47, .ref q_48, .ref q_49, .ref q_50, .ref q_51, .ref q_52, .int 0, .ref q_53, .ref q_54, .ref q_55, .ref q_56])), (q_39, .inl (aC 0, 5, .inl SET0)), (q_34, .inl (aC 0, 7, .inl (fun _ => 0)))]) [0, 2, 1] (by decide) rfl
      have hFc := va_free (wc := [(q_31, .inr (12, [.ref q_34, .ref q_35, .ref q_36, .ref q_37, .ref q_38, .ref q_39, .int 0, .int 0, .int 0, .ref q_40, .ref q_41, .ref q_42, .ref q_43, .int 0, .int 0, .int 0, .ref q_44, .int 0, .int 0, .int 0, .ref q_45, .ref q_46, .ref q_47, .ref q_48, .ref q_49, .ref q_50, .ref q_51, .ref q_52, .int 0, .ref q_53, .ref q_54, .ref q_55, .ref q_56])), (q_39, .inl (aC 0, 5, .inl SET0)), (q_34, .inl (aC 0, 7, .inl (fun _ => 0)))]) hD hS hA [0, 2, 1] rfl
      refine va_calli (va_runV (As := [.int (xs 1), .int (xs 2)]) (rest := [.int x_112]) ⟨hx, hb, hml, hown, hts⟩ (c_X12_set l dC dI aC H.size q_31 q_34 q_35 q_36 q_37 q_38 q_39 q_40 q_41 q_42 q_43 q_44 q_45 q_46 q_47 q_48 q_49 q_50 q_51 q_52 q_53 q_54 q_55 q_56 0 0 0 0 0 0 0 0 0 0 (fun _ => 0) SET0 (xs 1) (xs 2) tM ) ⟨(callB_of 2 hts (gG kw_882) rfl rfl rfl (hts _ (gw kw_13 rfl)) (hts _ (gw kw_879 rfl)) (by decide +kernel) ⟨Nat.le_of_ble_eq_true rfl, Nat.le_of_ble_eq_true rfl⟩), (hts _ (gw kw_880 rfl)), (hts _ (gw kw_881 rfl))⟩ ⟨fun a U g mk q => by obtain ⟨q0, q1, qP, qK, qD, qN, z0, z1⟩ := q; exact ⟨q0, q1, qP, va_K.moved (u := U) (U := U.calling g mk a) (Vm.Alike.refl U.vm) qK, qD, NX.same (u := U) (U := U.calling g mk a) rfl qN, va_Z.moved (u := U) (U := U.calling g mk a) (Vm.Alike.refl U.vm) z0, va_T.moved (u := U) (U := U.calling g mk a) (Vm.Alike.refl U.vm) z1⟩, va_recv hK hPc (ci := 12) (q0 := 0) rfl rfl, fun U hU hW => ⟨rfl, by rw [hU], by rw [hU]; exact hPc, va_K.moved hW.alike hK, hDc.weaken (fun _ _ _ _ => trivial), NX.warm hW hN, by rw [hU]; exact va_Z.moved hW.alike (va_Z.narrow (va_Z.kept hZM hS.2.1) hFc), by rw [hU]; exact va_T.moved hW.alike (va_T.narrow (va_T.kept hTM hS.2.1) hFc)⟩⟩ rfl rfl hl.1 rfl (lv_room (Nat.le_of_ble_eq_true rfl)) dL_law_258 ⟨Nat.le_of_ble_eq_true rfl, Nat.le_of_ble_eq_true rfl⟩) hS (fun q _ h => hFc q h) hFc (fun x_119 u t H1 locs ht hvm hw_119 hB hz1 hk1 hS => ?_)
      obtain ⟨hP1, hK1, hD1⟩ := hB
      rw [ht] at hP1
      clear hK1
      try dsimp only at hw_119
      obtain ⟨hP, hD⟩ := va_join (wr := []) (w1 := []) hP hD [0, 2, 1] [] rfl rfl (by decide) (by decide) hk1 hFc hP1 hD1
      generalize H1 = H at hP hS ⊢
      have hP : va_P (dC, dI) classes [] H := hP
      have hD : va_D A [] := hD
      clear hPc hDc hFc hz1 hk1 hP1 hD1 ht hvm
      refine lv_icmp_eq (tgt := 908) hx hb dL_law_261 (by decide) (fun c_120 => ?_) (fun c_120 => ?_)
      · obtain ⟨x_121, e_121⟩ : ∃ y : Int32, y = 0 + 5 := ⟨_, rfl⟩
        refine lv_iinc (v := x_121) (lv' := [(3, .int x_121), (2, .ref q_31), (1, .ref q_1), (0, .ref b)]) hx hb dL_law_908 hl (k := 0) rfl (by rw [e_121]; rfl) (by decide) rfl (fun ls hl => ?_)
        have h9 : x_121 = 5 := by rw [e_121]; decide
        subst h9
        refine lv_goto (tgt := 18) hx hb dL_law_911 (by decide) ?_
        refine lv_iload_n hx hb dL_law_18 rfl (lv_at hl 0 rfl) ?_
        refine lv_aload_n hx hb dL_law_19 rfl (lv_at hl 3 rfl) ?_
        refine va_slen hx hb hX hbl hbA hS dL_law_20 ?_
        refine lv_topi (fun x_122 e_122 => ?_)
        refine lv_iconst (v := 5) hx hb dL_law_21 (by decide) ?_
        refine lv_isub hx hb dL_law_22 ?_
        refine lv_topi (fun x_123 e_123 => ?_)
        refine lv_icmp_gt (tgt := 914) hx hb dL_law_23 (by decide) (fun c_124 => ?_) (fun c_124 => ?_)
        · refine lv_iconst (v := 1) hx hb dL_law_914 (by decide) ?_
          refine va_forget (fun q hq => by have := hS.2.2 q hq; rw [hAe] at this; exact this) ?_
          refine W.widen (k := 600000) (n := 7302250) (Nat.le_of_ble_eq_true rfl) (Nat.le_of_ble_eq_true rfl) ?_
          exact lw_ret hx hb hr hlocks dL_law_915
        · exact absurd (by rw [e_123, e_122]; decide) c_124
      · exact absurd (by rw [hw_112, hw_119]) c_120
    by_cases c_125 : x_62 = 4
    · refine lv_tableIn (tgt := 266) hx hb dL_law_32 (by rw [c_125]; decide) (by rw [c_125]; decide) (by rw [c_125]; rfl) (by decide) ?_
      have hP : va_P (dC, dI) classes [(q_1, .inr (11, [.ref q_5, .ref q_6, .ref q_7, .ref q_8, .ref q_9, .ref q_10, .ref q_11, .ref q_12, .ref q_13, .ref q_14, .ref q_15, .int 0, .int 0, .int 1])), (q_7, .inr (4, [.ref q_16, .ref q_17, .ref q_18, .ref q_19, .ref q_20, .int 0, .int 0, .int 0])), (q_14, .inl (aC 0, 7, .inl (fun _ => 0))), (q_31, .inr (12, [.ref q_34, .ref q_35, .ref q_36, .ref q_37, .ref q_38, .ref q_39, .int 0, .int 0, .int 0, .ref q_40, .ref q_41, .ref q_42, .ref q_43, .int 0, .int 0, .int 0, .ref q_44, .int 0, .int 0, .int 0, .ref q_45, .ref q_46, .ref q_47, .ref q_48, .ref q_49, .ref q_50, .ref q_51, .ref q_52, .int 0, .ref q_53, .ref q_54, .ref q_55, .ref q_56])), (q_34, .inl (aC 0, 7, .inl (fun _ => 0)))] H := hP.sub [0, 1, 21, 22, 23] rfl
      have hD : va_D A [(q_1, .inr (11, [.ref q_5, .ref q_6, .ref q_7, .ref q_8, .ref q_9, .ref q_10, .ref q_11, .ref q_12, .ref q_13, .ref q_14, .ref q_15, .int 0, .int 0, .int 1])), (q_7, .inr (4, [.ref q_16, .ref q_17, .ref q_18, .ref q_19, .ref q_20, .int 0, .int 0, .int 0])), (q_14, .inl (aC 0, 7, .inl (fun _ => 0))), (q_31, .inr (12, [.ref q_34, .ref q_35, .ref q_36, .ref q_37, .ref q_38, .ref q_39, .int 0, .int 0, .int 0, .ref q_40, .ref q_41, .ref q_42, .ref q_43, .int 0, .int 0, .int 0, .ref q_44, .int 0, .int 0, .int 0, .ref q_45, .ref q_46, .ref q_47, .ref q_48, .ref q_49, .ref q_50, .ref q_51, .ref q_52, .int 0, .ref q_53, .ref q_54, .ref q_55, .ref q_56])), (q_34, .inl (aC 0, 7, .inl (fun _ => 0)))] := hD.sub [0, 1, 21, 22, 23] (by decide) rfl
      refine lv_aload_n hx hb dL_law_266 rfl (lv_at hl 2 rfl) ?_
      refine lv_aload_n hx hb dL_law_267 rfl (lv_at hl 3 rfl) ?_
      refine lv_iload_n hx hb dL_law_268 rfl (lv_at hl 0 rfl) ?_
      refine lv_iconst (v := 1) hx hb dL_law_269 (by decide) ?_
      refine lv_iadd hx hb dL_law_270 ?_
      refine lv_topi (fun x_126 e_126 => ?_)
      have h9 : x_126 = 1 := by rw [e_126]; decide
      subst h9
      have h_127 : vp_in 1 5 := by first | assumption | (unfold vp_in; decide) | exact vp_in_nI (by omega) (by omega) | (subst_vars; first | (unfold vp_in; decide) | exact vp_in_nI (by omega) (by omega))
      refine va_sld hx hb hX hbl hbA hS h_127 dL_law_271 ?_
      refine lv_topi (fun x_128 e_128 => ?_)
      have h9 : x_128 = (xs 1) := by rw [e_128]; rfl
      subst h9
      refine lv_aload_n hx hb dL_law_272 rfl (lv_at hl 3 rfl) ?_
      refine lv_iload_n hx hb dL_law_273 rfl (lv_at hl 0 rfl) ?_
      refine lv_iconst (v := 2) hx hb dL_law_274 (by decide) ?_
      refine lv_iadd hx hb dL_law_275 ?_
      refine lv_topi (fun x_129 e_129 => ?_)
      have h9 : x_129 = 2 := by rw [e_129]; decide
      subst h9
      have h_130 : vp_in 2 5 := by first | assumption | (unfold vp_in; decide) | exact vp_in_nI (by omega) (by omega) | (subst_vars; first | (unfold vp_in; decide) | exact vp_in_nI (by omega) (by omega))
      refine va_sld hx hb hX hbl hbA hS h_130 dL_law_276 ?_
      refine lv_topi (fun x_131 e_131 => ?_)
      have h9 : x_131 = (xs 2) := by rw [e_131]; rfl
      subst h9
      have hPc := hP.sub (ws' := [(q_1, .inr (11, [.ref q_5, .ref q_6, .ref q_7, .ref q_8, .ref q_9, .ref q_10, .ref q_11, .ref q_12, .ref q_13, .ref q_14, .ref q_15, .int 0, .int 0, .int 1])), (q_7, .inr (4, [.ref q_16, .ref q_17, .ref q_18, .ref q_19, .ref q_20, .int 0, .int 0, .int 0])), (q_14, .inl (aC 0, 7, .inl (fun _ => 0)))]) [0, 1, 2] rfl
      have hDc := hD.sub (ws' := [(q_1, .inr (11, [.ref q_5, .ref q_6, .ref q_7, .ref q_8, .ref q_9, .ref q_10, .ref q_11, .ref q_12, .ref q_13, .ref q_14, .ref q_15, .int 0, .int 0, .int 1])), (q_7, .inr (4, [.ref q_16, .ref q_17, .ref q_18, .ref q_19, .ref q_20, .int 0, .int 0, .int 0])), (q_14, .inl (aC 0, 7, .inl (fun _ => 0)))]) [0, 1, 2] (by decide) rfl
      have hFc := va_free (wc := [(q_1, .inr (11, [.ref q_5, .ref q_6, .ref q_7, .ref q_8, .ref q_9, .ref q_10, .ref q_11, .ref q_12, .ref q_13, .ref q_14, .ref q_15, .int 0, .int 0, .int 1])), (q_7, .inr (4, [.ref q_16, .ref q_17, .ref q_18, .ref q_19, .ref q_20, .int 0, .int 0, .int 0])), (q_14, .inl (aC 0, 7, .inl (fun _ => 0)))]) hD hS hA [0, 1, 2] rfl
      refine va_calli (va_runV (As := [.int (xs 1), .int (xs 2)]) (rest := []) ⟨hx, hb, hml, hown, hts⟩ (c_X11_offered_r l dC dI aC H.size q_1 q_5 q_6 q_7 q_8 q_9 q_10 q_11 q_12 q_13 q_14 q_15 0 0 1 q_16 q_17 q_18 q_19 q_20 0 0 0 (fun _ => 0) (xs 1) (xs 2) (no0 _)) ⟨(callB_of 2 hts (gG kw_349) rfl rfl rfl (hts _ (gw kw_1 rfl)) (hts _ (gw kw_346 rfl)) (by decide +kernel) ⟨Nat.le_of_ble_eq_true rfl, Nat.le_of_ble_eq_true rfl⟩), (hts _ (gw kw_347 rfl)), (hts _ (gw kw_348 rfl))⟩ ⟨fun a U g mk q => by obtain ⟨q0, q1, qP, qK, qD, qN⟩ := q; exact ⟨q0, q1, qP, va_K.moved (u := U) (U := U.calling g mk a) (Vm.Alike.refl U.vm) qK, qD, NX.same (u := U) (U := U.calling g mk a) rfl qN⟩, va_recv hK hPc (ci := 11) (q0 := 0) rfl rfl, fun U hU hW => ⟨rfl, by rw [hU], by rw [hU]; exact hPc, va_K.moved hW.alike hK, hDc.weaken (fun _ _ _ _ => trivial), NX.warm hW hN⟩⟩ rfl rfl hl.1 rfl (lv_room (Nat.le_of_ble_eq_true rfl)) dL_law_277 ⟨Nat.le_of_ble_eq_true rfl, Nat.le_of_ble_eq_true rfl⟩) hS (fun q _ h => hFc q h) hFc (fun x_132 u t H1 locs ht hvm hw_132 hB hz1 hk1 hS => ?_)
      obtain ⟨hP1, hK1, hD1⟩ := hB
      rw [ht] at hP1
      clear hK1
      try dsimp only at hw_132
      obtain ⟨hP, hD⟩ := va_join (wr := [(q_31, .inr (12, [.ref q_34, .ref q_35, .ref q_36, .ref q_37, .ref q_38, .ref q_39, .int 0, .int 0, .int 0, .ref q_40, .ref q_41, .ref q_42, .ref q_43, .int 0, .int 0, .int 0, .ref q_44, .int 0, .int 0, .int 0, .ref q_45, .ref q_46, .ref q_47, .ref q_48, .ref q_49, .ref q_50, .ref q_51, .ref q_52, .int 0, .ref q_53, .ref q_54, .ref q_55, .ref q_56])), (q_34, .inl (aC 0, 7, .inl (fun _ => 0)))]) (w1 := []) hP hD [0, 1, 2] [3, 4] rfl rfl (by decide) (by decide) hk1 hFc hP1 hD1
      generalize H1 = H at hP hS ⊢
      have hP : va_P (dC, dI) classes [(q_31, .inr (12, [.ref q_34, .ref q_35, .ref q_36, .ref q_37, .ref q_38, .ref q_39, .int 0, .int 0, .int 0, .ref q_40, .ref q_41, .ref q_42, .ref q_43, .int 0, .int 0, .int 0, .ref q_44, .int 0, .int 0, .int 0, .ref q_45, .ref q_46, .ref q_47, .ref q_48, .ref q_49, .ref q_50, .ref q_51, .ref q_52, .int 0, .ref q_53, .ref q_54, .ref q_55, .ref q_56])), (q_34, .inl (aC 0, 7, .inl (fun _ => 0)))] H := hP
      have hD : va_D A [(q_31, .inr (12, [.ref q_34, .ref q_35, .ref q_36, .ref q_37, .ref q_38, .ref q_39, .int 0, .int 0, .int 0, .ref q_40, .ref q_41, .ref q_42, .ref q_43, .int 0, .int 0, .int 0, .ref q_44, .int 0, .int 0, .int 0, .ref q_45, .ref q_46, .ref q_47, .ref q_48, .ref q_49, .ref q_50, .ref q_51, .ref q_52, .int 0, .ref q_53, .ref q_54, .ref q_55, .ref q_56])), (q_34, .inl (aC 0, 7, .inl (fun _ => 0)))] := hD
      clear hPc hDc hFc hz1 hk1 hP1 hD1 ht hvm
      refine lv_aload_n hx hb dL_law_280 rfl (lv_at hl 1 rfl) ?_
      refine lv_aload_n hx hb dL_law_281 rfl (lv_at hl 3 rfl) ?_
      refine lv_iload_n hx hb dL_law_282 rfl (lv_at hl 0 rfl) ?_
      refine lv_iconst (v := 1) hx hb dL_law_283 (by decide) ?_
      refine lv_iadd hx hb dL_law_284 ?_
      refine lv_topi (fun x_133 e_133 => ?_)
      have h9 : x_133 = 1 := by rw [e_133]; decide
      subst h9
      have h_134 : vp_in 1 5 := by first | assumption | (unfold vp_in; decide) | exact vp_in_nI (by omega) (by omega) | (subst_vars; first | (unfold vp_in; decide) | exact vp_in_nI (by omega) (by omega))
      refine va_sld hx hb hX hbl hbA hS h_134 dL_law_285 ?_
      refine lv_topi (fun x_135 e_135 => ?_)
      have h9 : x_135 = (xs 1) := by rw [e_135]; rfl
      subst h9
      refine lv_aload_n hx hb dL_law_286 rfl (lv_at hl 3 rfl) ?_
      refine lv_iload_n hx hb dL_law_287 rfl (lv_at hl 0 rfl) ?_
      refine lv_iconst (v := 2) hx hb dL_law_288 (by decide) ?_
      refine lv_iadd hx hb dL_law_289 ?_
      refine lv_topi (fun x_136 e_136 => ?_)
      have h9 : x_136 = 2 := by rw [e_136]; decide
      subst h9
      have h_137 : vp_in 2 5 := by first | assumption | (unfold vp_in; decide) | exact vp_in_nI (by omega) (by omega) | (subst_vars; first | (unfold vp_in; decide) | exact vp_in_nI (by omega) (by omega))
      refine va_sld hx hb hX hbl hbA hS h_137 dL_law_290 ?_
      refine lv_topi (fun x_138 e_138 => ?_)
      have h9 : x_138 = (xs 2) := by rw [e_138]; rfl
      subst h9
      have hPc := hP.sub (ws' := [(q_31, .inr (12, [.ref q_34, .ref q_35, .ref q_36, .ref q_37, .ref q_38, .ref q_39, .int 0, .int 0, .int 0, .ref q_40, .ref q_41, .ref q_42, .ref q_43, .int 0, .int 0, .int 0, .ref q_44, .int 0, .int 0, .int 0, .ref q_45, .ref q_46, .ref q_47, .ref q_48, .ref q_49, .ref q_50, .ref q_51, .ref q_52, .int 0, .ref q_53, .ref q_54, .ref q_55, .ref q_56])), (q_34, .inl (aC 0, 7, .inl (fun _ => 0)))]) [0, 1] rfl
      have hDc := hD.sub (ws' := [(q_31, .inr (12, [.ref q_34, .ref q_35, .ref q_36, .ref q_37, .ref q_38, .ref q_39, .int 0, .int 0, .int 0, .ref q_40, .ref q_41, .ref q_42, .ref q_43, .int 0, .int 0, .int 0, .ref q_44, .int 0, .int 0, .int 0, .ref q_45, .ref q_46, .ref q_47, .ref q_48, .ref q_49, .ref q_50, .ref q_51, .ref q_52, .int 0, .ref q_53, .ref q_54, .ref q_55, .ref q_56])), (q_34, .inl (aC 0, 7, .inl (fun _ => 0)))]) [0, 1] (by decide) rfl
      have hFc := va_free (wc := [(q_31, .inr (12, [.ref q_34, .ref q_35, .ref q_36, .ref q_37, .ref q_38, .ref q_39, .int 0, .int 0, .int 0, .ref q_40, .ref q_41, .ref q_42, .ref q_43, .int 0, .int 0, .int 0, .ref q_44, .int 0, .int 0, .int 0, .ref q_45, .ref q_46, .ref q_47, .ref q_48, .ref q_49, .ref q_50, .ref q_51, .ref q_52, .int 0, .ref q_53, .ref q_54, .ref q_55, .ref q_56])), (q_34, .inl (aC 0, 7, .inl (fun _ => 0)))]) hD hS hA [0, 1] rfl
      refine va_calli (va_runV (As := [.int (xs 1), .int (xs 2)]) (rest := [.int x_132]) ⟨hx, hb, hml, hown, hts⟩ (c_X12_offered_r l dC dI aC H.size q_31 q_34 q_35 q_36 q_37 q_38 q_39 q_40 q_41 q_42 q_43 q_44 q_45 q_46 q_47 q_48 q_49 q_50 q_51 q_52 q_53 q_54 q_55 q_56 0 0 0 0 0 0 0 0 0 0 (fun _ => 0) (xs 1) (xs 2) (no0 _)) ⟨(callB_of 2 hts (gG kw_888) rfl rfl rfl (hts _ (gw kw_13 rfl)) (hts _ (gw kw_885 rfl)) (by decide +kernel) ⟨Nat.le_of_ble_eq_true rfl, Nat.le_of_ble_eq_true rfl⟩), (hts _ (gw kw_886 rfl)), (hts _ (gw kw_887 rfl))⟩ ⟨fun a U g mk q => by obtain ⟨q0, q1, qP, qK, qD, qN⟩ := q; exact ⟨q0, q1, qP, va_K.moved (u := U) (U := U.calling g mk a) (Vm.Alike.refl U.vm) qK, qD, NX.same (u := U) (U := U.calling g mk a) rfl qN⟩, va_recv hK hPc (ci := 12) (q0 := 0) rfl rfl, fun U hU hW => ⟨rfl, by rw [hU], by rw [hU]; exact hPc, va_K.moved hW.alike hK, hDc.weaken (fun _ _ _ _ => trivial), NX.warm hW hN⟩⟩ rfl rfl hl.1 rfl (lv_room (Nat.le_of_ble_eq_true rfl)) dL_law_291 ⟨Nat.le_of_ble_eq_true rfl, Nat.le_of_ble_eq_true rfl⟩) hS (fun q _ h => hFc q h) hFc (fun x_139 u t H1 locs ht hvm hw_139 hB hz1 hk1 hS => ?_)
      obtain ⟨hP1, hK1, hD1⟩ := hB
      rw [ht] at hP1
      clear hK1
      try dsimp only at hw_139
      obtain ⟨hP, hD⟩ := va_join (wr := []) (w1 := []) hP hD [0, 1] [] rfl rfl (by decide) (by decide) hk1 hFc hP1 hD1
      generalize H1 = H at hP hS ⊢
      have hP : va_P (dC, dI) classes [] H := hP
      have hD : va_D A [] := hD
      clear hPc hDc hFc hz1 hk1 hP1 hD1 ht hvm
      refine lv_icmp_eq (tgt := 908) hx hb dL_law_294 (by decide) (fun c_140 => ?_) (fun c_140 => ?_)
      · obtain ⟨x_141, e_141⟩ : ∃ y : Int32, y = 0 + 5 := ⟨_, rfl⟩
        refine lv_iinc (v := x_141) (lv' := [(3, .int x_141), (2, .ref q_31), (1, .ref q_1), (0, .ref b)]) hx hb dL_law_908 hl (k := 0) rfl (by rw [e_141]; rfl) (by decide) rfl (fun ls hl => ?_)
        have h9 : x_141 = 5 := by rw [e_141]; decide
        subst h9
        refine lv_goto (tgt := 18) hx hb dL_law_911 (by decide) ?_
        refine lv_iload_n hx hb dL_law_18 rfl (lv_at hl 0 rfl) ?_
        refine lv_aload_n hx hb dL_law_19 rfl (lv_at hl 3 rfl) ?_
        refine va_slen hx hb hX hbl hbA hS dL_law_20 ?_
        refine lv_topi (fun x_142 e_142 => ?_)
        refine lv_iconst (v := 5) hx hb dL_law_21 (by decide) ?_
        refine lv_isub hx hb dL_law_22 ?_
        refine lv_topi (fun x_143 e_143 => ?_)
        refine lv_icmp_gt (tgt := 914) hx hb dL_law_23 (by decide) (fun c_144 => ?_) (fun c_144 => ?_)
        · refine lv_iconst (v := 1) hx hb dL_law_914 (by decide) ?_
          refine va_forget (fun q hq => by have := hS.2.2 q hq; rw [hAe] at this; exact this) ?_
          refine W.widen (k := 600000) (n := 7302250) (Nat.le_of_ble_eq_true rfl) (Nat.le_of_ble_eq_true rfl) ?_
          exact lw_ret hx hb hr hlocks dL_law_915
        · exact absurd (by rw [e_143, e_142]; decide) c_144
      · exact absurd (by rw [hw_132, hw_139]) c_140
    by_cases c_145 : x_62 = 5
    · refine lv_tableIn (tgt := 299) hx hb dL_law_32 (by rw [c_145]; decide) (by rw [c_145]; decide) (by rw [c_145]; rfl) (by decide) ?_
      have hP : va_P (dC, dI) classes [(q_1, .inr (11, [.ref q_5, .ref q_6, .ref q_7, .ref q_8, .ref q_9, .ref q_10, .ref q_11, .ref q_12, .ref q_13, .ref q_14, .ref q_15, .int 0, .int 0, .int 1])), (q_7, .inr (4, [.ref q_16, .ref q_17, .ref q_18, .ref q_19, .ref q_20, .int 0, .int 0, .int 0])), (q_14, .inl (aC 0, 7, .inl (fun _ => 0))), (q_31, .inr (12, [.ref q_34, .ref q_35, .ref q_36, .ref q_37, .ref q_38, .ref q_39, .int 0, .int 0, .int 0, .ref q_40, .ref q_41, .ref q_42, .ref q_43, .int 0, .int 0, .int 0, .ref q_44, .int 0, .int 0, .int 0, .ref q_45, .ref q_46, .ref q_47, .ref q_48, .ref q_49, .ref q_50, .ref q_51, .ref q_52, .int 0, .ref q_53, .ref q_54, .ref q_55, .ref q_56])), (q_34, .inl (aC 0, 7, .inl (fun _ => 0)))] H := hP.sub [0, 1, 21, 22, 23] rfl
      have hD : va_D A [(q_1, .inr (11, [.ref q_5, .ref q_6, .ref q_7, .ref q_8, .ref q_9, .ref q_10, .ref q_11, .ref q_12, .ref q_13, .ref q_14, .ref q_15, .int 0, .int 0, .int 1])), (q_7, .inr (4, [.ref q_16, .ref q_17, .ref q_18, .ref q_19, .ref q_20, .int 0, .int 0, .int 0])), (q_14, .inl (aC 0, 7, .inl (fun _ => 0))), (q_31, .inr (12, [.ref q_34, .ref q_35, .ref q_36, .ref q_37, .ref q_38, .ref q_39, .int 0, .int 0, .int 0, .ref q_40, .ref q_41, .ref q_42, .ref q_43, .int 0, .int 0, .int 0, .ref q_44, .int 0, .int 0, .int 0, .ref q_45, .ref q_46, .ref q_47, .ref q_48, .ref q_49, .ref q_50, .ref q_51, .ref q_52, .int 0, .ref q_53, .ref q_54, .ref q_55, .ref q_56])), (q_34, .inl (aC 0, 7, .inl (fun _ => 0)))] := hD.sub [0, 1, 21, 22, 23] (by decide) rfl
      refine lv_aload_n hx hb dL_law_299 rfl (lv_at hl 2 rfl) ?_
      refine lv_aload_n hx hb dL_law_300 rfl (lv_at hl 3 rfl) ?_
      refine lv_iload_n hx hb dL_law_301 rfl (lv_at hl 0 rfl) ?_
      refine lv_iconst (v := 1) hx hb dL_law_302 (by decide) ?_
      refine lv_iadd hx hb dL_law_303 ?_
      refine lv_topi (fun x_146 e_146 => ?_)
      have h9 : x_146 = 1 := by rw [e_146]; decide
      subst h9
      have h_147 : vp_in 1 5 := by first | assumption | (unfold vp_in; decide) | exact vp_in_nI (by omega) (by omega) | (subst_vars; first | (unfold vp_in; decide) | exact vp_in_nI (by omega) (by omega))
      refine va_sld hx hb hX hbl hbA hS h_147 dL_law_304 ?_
      refine lv_topi (fun x_148 e_148 => ?_)
      have h9 : x_148 = (xs 1) := by rw [e_148]; rfl
      subst h9
      refine lv_aload_n hx hb dL_law_305 rfl (lv_at hl 3 rfl) ?_
      refine lv_iload_n hx hb dL_law_306 rfl (lv_at hl 0 rfl) ?_
      refine lv_iconst (v := 2) hx hb dL_law_307 (by decide) ?_
      refine lv_iadd hx hb dL_law_308 ?_
      refine lv_topi (fun x_149 e_149 => ?_)
      have h9 : x_149 = 2 := by rw [e_149]; decide
      subst h9
      have h_150 : vp_in 2 5 := by first | assumption | (unfold vp_in; decide) | exact vp_in_nI (by omega) (by omega) | (subst_vars; first | (unfold vp_in; decide) | exact vp_in_nI (by omega) (by omega))
      refine va_sld hx hb hX hbl hbA hS h_150 dL_law_309 ?_
      refine lv_topi (fun x_151 e_151 => ?_)
      have h9 : x_151 = (xs 2) := by rw [e_151]; rfl
      subst h9
      have hPc := hP.sub (ws' := [(q_1, .inr (11, [.ref q_5, .ref q_6, .ref q_7, .ref q_8, .ref q_9, .ref q_10, .ref q_11, .ref q_12, .ref q_13, .ref q_14, .ref q_15, .int 0, .int 0, .int 1])), (q_7, .inr (4, [.ref q_16, .ref q_17, .ref q_18, .ref q_19, .ref q_20, .int 0, .int 0, .int 0])), (q_14, .inl (aC 0, 7, .inl (fun _ => 0)))]) [0, 1, 2] rfl
      have hDc := hD.sub (ws' := [(q_1, .inr (11, [.ref q_5, .ref q_6, .ref q_7, .ref q_8, .ref q_9, .ref q_10, .ref q_11, .ref q_12, .ref q_13, .ref q_14, .ref q_15, .int 0, .int 0, .int 1])), (q_7, .inr (4, [.ref q_16, .ref q_17, .ref q_18, .ref q_19, .ref q_20, .int 0, .int 0, .int 0])), (q_14, .inl (aC 0, 7, .inl (fun _ => 0)))]) [0, 1, 2] (by decide) rfl
      have hFc := va_free (wc := [(q_1, .inr (11, [.ref q_5, .ref q_6, .ref q_7, .ref q_8, .ref q_9, .ref q_10, .ref q_11, .ref q_12, .ref q_13, .ref q_14, .ref q_15, .int 0, .int 0, .int 1])), (q_7, .inr (4, [.ref q_16, .ref q_17, .ref q_18, .ref q_19, .ref q_20, .int 0, .int 0, .int 0])), (q_14, .inl (aC 0, 7, .inl (fun _ => 0)))]) hD hS hA [0, 1, 2] rfl
      refine va_calli (va_runV (As := [.int (xs 1), .int (xs 2)]) (rest := []) ⟨hx, hb, hml, hown, hts⟩ (c_X11_price_r l dC dI aC H.size q_1 q_5 q_6 q_7 q_8 q_9 q_10 q_11 q_12 q_13 q_14 q_15 0 0 1 q_16 q_17 q_18 q_19 q_20 0 0 0 (fun _ => 0) (xs 1) (xs 2) (no0 _)) ⟨(callB_of 2 hts (gG kw_490) rfl rfl rfl (hts _ (gw kw_1 rfl)) (hts _ (gw kw_487 rfl)) (by decide +kernel) ⟨Nat.le_of_ble_eq_true rfl, Nat.le_of_ble_eq_true rfl⟩), (hts _ (gw kw_488 rfl)), (hts _ (gw kw_489 rfl))⟩ ⟨fun a U g mk q => by obtain ⟨q0, q1, qP, qK, qD, qN⟩ := q; exact ⟨q0, q1, qP, va_K.moved (u := U) (U := U.calling g mk a) (Vm.Alike.refl U.vm) qK, qD, NX.same (u := U) (U := U.calling g mk a) rfl qN⟩, va_recv hK hPc (ci := 11) (q0 := 0) rfl rfl, fun U hU hW => ⟨rfl, by rw [hU], by rw [hU]; exact hPc, va_K.moved hW.alike hK, hDc.weaken (fun _ _ _ _ => trivial), NX.warm hW hN⟩⟩ rfl rfl hl.1 rfl (lv_room (Nat.le_of_ble_eq_true rfl)) dL_law_310 ⟨Nat.le_of_ble_eq_true rfl, Nat.le_of_ble_eq_true rfl⟩) hS (fun q _ h => hFc q h) hFc (fun x_152 u t H1 locs ht hvm hw_152 hB hz1 hk1 hS => ?_)
      obtain ⟨hP1, hK1, hD1⟩ := hB
      rw [ht] at hP1
      clear hK1
      try dsimp only at hw_152
      obtain ⟨hP, hD⟩ := va_join (wr := [(q_31, .inr (12, [.ref q_34, .ref q_35, .ref q_36, .ref q_37, .ref q_38, .ref q_39, .int 0, .int 0, .int 0, .ref q_40, .ref q_41, .ref q_42, .ref q_43, .int 0, .int 0, .int 0, .ref q_44, .int 0, .int 0, .int 0, .ref q_45, .ref q_46, .ref q_47, .ref q_48, .ref q_49, .ref q_50, .ref q_51, .ref q_52, .int 0, .ref q_53, .ref q_54, .ref q_55, .ref q_56])), (q_34, .inl (aC 0, 7, .inl (fun _ => 0)))]) (w1 := []) hP hD [0, 1, 2] [3, 4] rfl rfl (by decide) (by decide) hk1 hFc hP1 hD1
      generalize H1 = H at hP hS ⊢
      have hP : va_P (dC, dI) classes [(q_31, .inr (12, [.ref q_34, .ref q_35, .ref q_36, .ref q_37, .ref q_38, .ref q_39, .int 0, .int 0, .int 0, .ref q_40, .ref q_41, .ref q_42, .ref q_43, .int 0, .int 0, .int 0, .ref q_44, .int 0, .int 0, .int 0, .ref q_45, .ref q_46, .ref q_47, .ref q_48, .ref q_49, .ref q_50, .ref q_51, .ref q_52, .int 0, .ref q_53, .ref q_54, .ref q_55, .ref q_56])), (q_34, .inl (aC 0, 7, .inl (fun _ => 0)))] H := hP
      have hD : va_D A [(q_31, .inr (12, [.ref q_34, .ref q_35, .ref q_36, .ref q_37, .ref q_38, .ref q_39, .int 0, .int 0, .int 0, .ref q_40, .ref q_41, .ref q_42, .ref q_43, .int 0, .int 0, .int 0, .ref q_44, .int 0, .int 0, .int 0, .ref q_45, .ref q_46, .ref q_47, .ref q_48, .ref q_49, .ref q_50, .ref q_51, .ref q_52, .int 0, .ref q_53, .ref q_54, .ref q_55, .ref q_56])), (q_34, .inl (aC 0, 7, .inl (fun _ => 0)))] := hD
      clear hPc hDc hFc hz1 hk1 hP1 hD1 ht hvm
      refine lv_aload_n hx hb dL_law_313 rfl (lv_at hl 1 rfl) ?_
      refine lv_aload_n hx hb dL_law_314 rfl (lv_at hl 3 rfl) ?_
      refine lv_iload_n hx hb dL_law_315 rfl (lv_at hl 0 rfl) ?_
      refine lv_iconst (v := 1) hx hb dL_law_316 (by decide) ?_
      refine lv_iadd hx hb dL_law_317 ?_
      refine lv_topi (fun x_153 e_153 => ?_)
      have h9 : x_153 = 1 := by rw [e_153]; decide
      subst h9
      have h_154 : vp_in 1 5 := by first | assumption | (unfold vp_in; decide) | exact vp_in_nI (by omega) (by omega) | (subst_vars; first | (unfold vp_in; decide) | exact vp_in_nI (by omega) (by omega))
      refine va_sld hx hb hX hbl hbA hS h_154 dL_law_318 ?_
      refine lv_topi (fun x_155 e_155 => ?_)
      have h9 : x_155 = (xs 1) := by rw [e_155]; rfl
      subst h9
      refine lv_aload_n hx hb dL_law_319 rfl (lv_at hl 3 rfl) ?_
      refine lv_iload_n hx hb dL_law_320 rfl (lv_at hl 0 rfl) ?_
      refine lv_iconst (v := 2) hx hb dL_law_321 (by decide) ?_
      refine lv_iadd hx hb dL_law_322 ?_
      refine lv_topi (fun x_156 e_156 => ?_)
      have h9 : x_156 = 2 := by rw [e_156]; decide
      subst h9
      have h_157 : vp_in 2 5 := by first | assumption | (unfold vp_in; decide) | exact vp_in_nI (by omega) (by omega) | (subst_vars; first | (unfold vp_in; decide) | exact vp_in_nI (by omega) (by omega))
      refine va_sld hx hb hX hbl hbA hS h_157 dL_law_323 ?_
      refine lv_topi (fun x_158 e_158 => ?_)
      have h9 : x_158 = (xs 2) := by rw [e_158]; rfl
      subst h9
      have hPc := hP.sub (ws' := [(q_31, .inr (12, [.ref q_34, .ref q_35, .ref q_36, .ref q_37, .ref q_38, .ref q_39, .int 0, .int 0, .int 0, .ref q_40, .ref q_41, .ref q_42, .ref q_43, .int 0, .int 0, .int 0, .ref q_44, .int 0, .int 0, .int 0, .ref q_45, .ref q_46, .ref q_47, .ref q_48, .ref q_49, .ref q_50, .ref q_51, .ref q_52, .int 0, .ref q_53, .ref q_54, .ref q_55, .ref q_56])), (q_34, .inl (aC 0, 7, .inl (fun _ => 0)))]) [0, 1] rfl
      have hDc := hD.sub (ws' := [(q_31, .inr (12, [.ref q_34, .ref q_35, .ref q_36, .ref q_37, .ref q_38, .ref q_39, .int 0, .int 0, .int 0, .ref q_40, .ref q_41, .ref q_42, .ref q_43, .int 0, .int 0, .int 0, .ref q_44, .int 0, .int 0, .int 0, .ref q_45, .ref q_46, .ref q_47, .ref q_48, .ref q_49, .ref q_50, .ref q_51, .ref q_52, .int 0, .ref q_53, .ref q_54, .ref q_55, .ref q_56])), (q_34, .inl (aC 0, 7, .inl (fun _ => 0)))]) [0, 1] (by decide) rfl
      have hFc := va_free (wc := [(q_31, .inr (12, [.ref q_34, .ref q_35, .ref q_36, .ref q_37, .ref q_38, .ref q_39, .int 0, .int 0, .int 0, .ref q_40, .ref q_41, .ref q_42, .ref q_43, .int 0, .int 0, .int 0, .ref q_44, .int 0, .int 0, .int 0, .ref q_45, .ref q_46, .ref q_47, .ref q_48, .ref q_49, .ref q_50, .ref q_51, .ref q_52, .int 0, .ref q_53, .ref q_54, .ref q_55, .ref q_56])), (q_34, .inl (aC 0, 7, .inl (fun _ => 0)))]) hD hS hA [0, 1] rfl
      refine va_calli (va_runV (As := [.int (xs 1), .int (xs 2)]) (rest := [.int x_152]) ⟨hx, hb, hml, hown, hts⟩ (c_X12_price_r l dC dI aC H.size q_31 q_34 q_35 q_36 q_37 q_38 q_39 q_40 q_41 q_42 q_43 q_44 q_45 q_46 q_47 q_48 q_49 q_50 q_51 q_52 q_53 q_54 q_55 q_56 0 0 0 0 0 0 0 0 0 0 (fun _ => 0) (xs 1) (xs 2) (no0 _)) ⟨(callB_of 2 hts (gG kw_953) rfl rfl rfl (hts _ (gw kw_13 rfl)) (hts _ (gw kw_950 rfl)) (by decide +kernel) ⟨Nat.le_of_ble_eq_true rfl, Nat.le_of_ble_eq_true rfl⟩), (hts _ (gw kw_951 rfl)), (hts _ (gw kw_952 rfl))⟩ ⟨fun a U g mk q => by obtain ⟨q0, q1, qP, qK, qD, qN⟩ := q; exact ⟨q0, q1, qP, va_K.moved (u := U) (U := U.calling g mk a) (Vm.Alike.refl U.vm) qK, qD, NX.same (u := U) (U := U.calling g mk a) rfl qN⟩, va_recv hK hPc (ci := 12) (q0 := 0) rfl rfl, fun U hU hW => ⟨rfl, by rw [hU], by rw [hU]; exact hPc, va_K.moved hW.alike hK, hDc.weaken (fun _ _ _ _ => trivial), NX.warm hW hN⟩⟩ rfl rfl hl.1 rfl (lv_room (Nat.le_of_ble_eq_true rfl)) dL_law_324 ⟨Nat.le_of_ble_eq_true rfl, Nat.le_of_ble_eq_true rfl⟩) hS (fun q _ h => hFc q h) hFc (fun x_159 u t H1 locs ht hvm hw_159 hB hz1 hk1 hS => ?_)
      obtain ⟨hP1, hK1, hD1⟩ := hB
      rw [ht] at hP1
      clear hK1
      try dsimp only at hw_159
      obtain ⟨hP, hD⟩ := va_join (wr := []) (w1 := []) hP hD [0, 1] [] rfl rfl (by decide) (by decide) hk1 hFc hP1 hD1
      generalize H1 = H at hP hS ⊢
      have hP : va_P (dC, dI) classes [] H := hP
      have hD : va_D A [] := hD
      clear hPc hDc hFc hz1 hk1 hP1 hD1 ht hvm
      refine lv_icmp_eq (tgt := 908) hx hb dL_law_327 (by decide) (fun c_160 => ?_) (fun c_160 => ?_)
      · obtain ⟨x_161, e_161⟩ : ∃ y : Int32, y = 0 + 5 := ⟨_, rfl⟩
        refine lv_iinc (v := x_161) (lv' := [(3, .int x_161), (2, .ref q_31), (1, .ref q_1), (0, .ref b)]) hx hb dL_law_908 hl (k := 0) rfl (by rw [e_161]; rfl) (by decide) rfl (fun ls hl => ?_)
        have h9 : x_161 = 5 := by rw [e_161]; decide
        subst h9
        refine lv_goto (tgt := 18) hx hb dL_law_911 (by decide) ?_
        refine lv_iload_n hx hb dL_law_18 rfl (lv_at hl 0 rfl) ?_
        refine lv_aload_n hx hb dL_law_19 rfl (lv_at hl 3 rfl) ?_
        refine va_slen hx hb hX hbl hbA hS dL_law_20 ?_
        refine lv_topi (fun x_162 e_162 => ?_)
        refine lv_iconst (v := 5) hx hb dL_law_21 (by decide) ?_
        refine lv_isub hx hb dL_law_22 ?_
        refine lv_topi (fun x_163 e_163 => ?_)
        refine lv_icmp_gt (tgt := 914) hx hb dL_law_23 (by decide) (fun c_164 => ?_) (fun c_164 => ?_)
        · refine lv_iconst (v := 1) hx hb dL_law_914 (by decide) ?_
          refine va_forget (fun q hq => by have := hS.2.2 q hq; rw [hAe] at this; exact this) ?_
          refine W.widen (k := 600000) (n := 7302250) (Nat.le_of_ble_eq_true rfl) (Nat.le_of_ble_eq_true rfl) ?_
          exact lw_ret hx hb hr hlocks dL_law_915
        · exact absurd (by rw [e_163, e_162]; decide) c_164
      · exact absurd (by rw [hw_152, hw_159]) c_160
    by_cases c_165 : x_62 = 6
    · refine lv_tableIn (tgt := 332) hx hb dL_law_32 (by rw [c_165]; decide) (by rw [c_165]; decide) (by rw [c_165]; rfl) (by decide) ?_
      have hP : va_P (dC, dI) classes [(q_1, .inr (11, [.ref q_5, .ref q_6, .ref q_7, .ref q_8, .ref q_9, .ref q_10, .ref q_11, .ref q_12, .ref q_13, .ref q_14, .ref q_15, .int 0, .int 0, .int 1])), (q_7, .inr (4, [.ref q_16, .ref q_17, .ref q_18, .ref q_19, .ref q_20, .int 0, .int 0, .int 0])), (q_14, .inl (aC 0, 7, .inl (fun _ => 0))), (q_31, .inr (12, [.ref q_34, .ref q_35, .ref q_36, .ref q_37, .ref q_38, .ref q_39, .int 0, .int 0, .int 0, .ref q_40, .ref q_41, .ref q_42, .ref q_43, .int 0, .int 0, .int 0, .ref q_44, .int 0, .int 0, .int 0, .ref q_45, .ref q_46, .ref q_47, .ref q_48, .ref q_49, .ref q_50, .ref q_51, .ref q_52, .int 0, .ref q_53, .ref q_54, .ref q_55, .ref q_56])), (q_34, .inl (aC 0, 7, .inl (fun _ => 0)))] H := hP.sub [0, 1, 21, 22, 23] rfl
      have hD : va_D A [(q_1, .inr (11, [.ref q_5, .ref q_6, .ref q_7, .ref q_8, .ref q_9, .ref q_10, .ref q_11, .ref q_12, .ref q_13, .ref q_14, .ref q_15, .int 0, .int 0, .int 1])), (q_7, .inr (4, [.ref q_16, .ref q_17, .ref q_18, .ref q_19, .ref q_20, .int 0, .int 0, .int 0])), (q_14, .inl (aC 0, 7, .inl (fun _ => 0))), (q_31, .inr (12, [.ref q_34, .ref q_35, .ref q_36, .ref q_37, .ref q_38, .ref q_39, .int 0, .int 0, .int 0, .ref q_40, .ref q_41, .ref q_42, .ref q_43, .int 0, .int 0, .int 0, .ref q_44, .int 0, .int 0, .int 0, .ref q_45, .ref q_46, .ref q_47, .ref q_48, .ref q_49, .ref q_50, .ref q_51, .ref q_52, .int 0, .ref q_53, .ref q_54, .ref q_55, .ref q_56])), (q_34, .inl (aC 0, 7, .inl (fun _ => 0)))] := hD.sub [0, 1, 21, 22, 23] (by decide) rfl
      refine lv_aload_n hx hb dL_law_332 rfl (lv_at hl 2 rfl) ?_
      refine lv_aload_n hx hb dL_law_333 rfl (lv_at hl 3 rfl) ?_
      refine lv_iload_n hx hb dL_law_334 rfl (lv_at hl 0 rfl) ?_
      refine lv_iconst (v := 1) hx hb dL_law_335 (by decide) ?_
      refine lv_iadd hx hb dL_law_336 ?_
      refine lv_topi (fun x_166 e_166 => ?_)
      have h9 : x_166 = 1 := by rw [e_166]; decide
      subst h9
      have h_167 : vp_in 1 5 := by first | assumption | (unfold vp_in; decide) | exact vp_in_nI (by omega) (by omega) | (subst_vars; first | (unfold vp_in; decide) | exact vp_in_nI (by omega) (by omega))
      refine va_sld hx hb hX hbl hbA hS h_167 dL_law_337 ?_
      refine lv_topi (fun x_168 e_168 => ?_)
      have h9 : x_168 = (xs 1) := by rw [e_168]; rfl
      subst h9
      have hPc := hP.sub (ws' := [(q_1, .inr (11, [.ref q_5, .ref q_6, .ref q_7, .ref q_8, .ref q_9, .ref q_10, .ref q_11, .ref q_12, .ref q_13, .ref q_14, .ref q_15, .int 0, .int 0, .int 1])), (q_7, .inr (4, [.ref q_16, .ref q_17, .ref q_18, .ref q_19, .ref q_20, .int 0, .int 0, .int 0])), (q_14, .inl (aC 0, 7, .inl (fun _ => 0)))]) [0, 1, 2] rfl
      have hDc := hD.sub (ws' := [(q_1, .inr (11, [.ref q_5, .ref q_6, .ref q_7, .ref q_8, .ref q_9, .ref q_10, .ref q_11, .ref q_12, .ref q_13, .ref q_14, .ref q_15, .int 0, .int 0, .int 1])), (q_7, .inr (4, [.ref q_16, .ref q_17, .ref q_18, .ref q_19, .ref q_20, .int 0, .int 0, .int 0])), (q_14, .inl (aC 0, 7, .inl (fun _ => 0)))]) [0, 1, 2] (by decide) rfl
      have hFc := va_free (wc := [(q_1, .inr (11, [.ref q_5, .ref q_6, .ref q_7, .ref q_8, .ref q_9, .ref q_10, .ref q_11, .ref q_12, .ref q_13, .ref q_14, .ref q_15, .int 0, .int 0, .int 1])), (q_7, .inr (4, [.ref q_16, .ref q_17, .ref q_18, .ref q_19, .ref q_20, .int 0, .int 0, .int 0])), (q_14, .inl (aC 0, 7, .inl (fun _ => 0)))]) hD hS hA [0, 1, 2] rfl
      refine va_calli (va_runV (As := [.int (xs 1)]) (rest := []) ⟨hx, hb, hml, hown, hts⟩ (c_X11_votes_r l dC dI aC H.size q_1 q_5 q_6 q_7 q_8 q_9 q_10 q_11 q_12 q_13 q_14 q_15 0 0 1 q_16 q_17 q_18 q_19 q_20 0 0 0 (fun _ => 0) (xs 1) (no0 _)) ⟨(callB_of 1 hts (gG kw_494) rfl rfl rfl (hts _ (gw kw_1 rfl)) (hts _ (gw kw_491 rfl)) (by decide +kernel) ⟨Nat.le_of_ble_eq_true rfl, Nat.le_of_ble_eq_true rfl⟩), (hts _ (gw kw_492 rfl)), (hts _ (gw kw_493 rfl))⟩ ⟨fun a U g mk q => by obtain ⟨q0, q1, qP, qK, qD, qN⟩ := q; exact ⟨q0, q1, qP, va_K.moved (u := U) (U := U.calling g mk a) (Vm.Alike.refl U.vm) qK, qD, NX.same (u := U) (U := U.calling g mk a) rfl qN⟩, va_recv hK hPc (ci := 11) (q0 := 0) rfl rfl, fun U hU hW => ⟨rfl, by rw [hU], by rw [hU]; exact hPc, va_K.moved hW.alike hK, hDc.weaken (fun _ _ _ _ => trivial), NX.warm hW hN⟩⟩ rfl rfl hl.1 rfl (lv_room (Nat.le_of_ble_eq_true rfl)) dL_law_338 ⟨Nat.le_of_ble_eq_true rfl, Nat.le_of_ble_eq_true rfl⟩) hS (fun q _ h => hFc q h) hFc (fun x_169 u t H1 locs ht hvm hw_169 hB hz1 hk1 hS => ?_)
      obtain ⟨hP1, hK1, hD1⟩ := hB
      rw [ht] at hP1
      clear hK1
      try dsimp only at hw_169
      obtain ⟨hP, hD⟩ := va_join (wr := [(q_31, .inr (12, [.ref q_34, .ref q_35, .ref q_36, .ref q_37, .ref q_38, .ref q_39, .int 0, .int 0, .int 0, .ref q_40, .ref q_41, .ref q_42, .ref q_43, .int 0, .int 0, .int 0, .ref q_44, .int 0, .int 0, .int 0, .ref q_45, .ref q_46, .ref q_47, .ref q_48, .ref q_49, .ref q_50, .ref q_51, .ref q_52, .int 0, .ref q_53, .ref q_54, .ref q_55, .ref q_56])), (q_34, .inl (aC 0, 7, .inl (fun _ => 0)))]) (w1 := []) hP hD [0, 1, 2] [3, 4] rfl rfl (by decide) (by decide) hk1 hFc hP1 hD1
      generalize H1 = H at hP hS ⊢
      have hP : va_P (dC, dI) classes [(q_31, .inr (12, [.ref q_34, .ref q_35, .ref q_36, .ref q_37, .ref q_38, .ref q_39, .int 0, .int 0, .int 0, .ref q_40, .ref q_41, .ref q_42, .ref q_43, .int 0, .int 0, .int 0, .ref q_44, .int 0, .int 0, .int 0, .ref q_45, .ref q_46, .ref q_47, .ref q_48, .ref q_49, .ref q_50, .ref q_51, .ref q_52, .int 0, .ref q_53, .ref q_54, .ref q_55, .ref q_56])), (q_34, .inl (aC 0, 7, .inl (fun _ => 0)))] H := hP
      have hD : va_D A [(q_31, .inr (12, [.ref q_34, .ref q_35, .ref q_36, .ref q_37, .ref q_38, .ref q_39, .int 0, .int 0, .int 0, .ref q_40, .ref q_41, .ref q_42, .ref q_43, .int 0, .int 0, .int 0, .ref q_44, .int 0, .int 0, .int 0, .ref q_45, .ref q_46, .ref q_47, .ref q_48, .ref q_49, .ref q_50, .ref q_51, .ref q_52, .int 0, .ref q_53, .ref q_54, .ref q_55, .ref q_56])), (q_34, .inl (aC 0, 7, .inl (fun _ => 0)))] := hD
      clear hPc hDc hFc hz1 hk1 hP1 hD1 ht hvm
      refine lv_aload_n hx hb dL_law_341 rfl (lv_at hl 1 rfl) ?_
      refine lv_aload_n hx hb dL_law_342 rfl (lv_at hl 3 rfl) ?_
      refine lv_iload_n hx hb dL_law_343 rfl (lv_at hl 0 rfl) ?_
      refine lv_iconst (v := 1) hx hb dL_law_344 (by decide) ?_
      refine lv_iadd hx hb dL_law_345 ?_
      refine lv_topi (fun x_170 e_170 => ?_)
      have h9 : x_170 = 1 := by rw [e_170]; decide
      subst h9
      have h_171 : vp_in 1 5 := by first | assumption | (unfold vp_in; decide) | exact vp_in_nI (by omega) (by omega) | (subst_vars; first | (unfold vp_in; decide) | exact vp_in_nI (by omega) (by omega))
      refine va_sld hx hb hX hbl hbA hS h_171 dL_law_346 ?_
      refine lv_topi (fun x_172 e_172 => ?_)
      have h9 : x_172 = (xs 1) := by rw [e_172]; rfl
      subst h9
      have hPc := hP.sub (ws' := [(q_31, .inr (12, [.ref q_34, .ref q_35, .ref q_36, .ref q_37, .ref q_38, .ref q_39, .int 0, .int 0, .int 0, .ref q_40, .ref q_41, .ref q_42, .ref q_43, .int 0, .int 0, .int 0, .ref q_44, .int 0, .int 0, .int 0, .ref q_45, .ref q_46, .ref q_47, .ref q_48, .ref q_49, .ref q_50, .ref q_51, .ref q_52, .int 0, .ref q_53, .ref q_54, .ref q_55, .ref q_56])), (q_34, .inl (aC 0, 7, .inl (fun _ => 0)))]) [0, 1] rfl
      have hDc := hD.sub (ws' := [(q_31, .inr (12, [.ref q_34, .ref q_35, .ref q_36, .ref q_37, .ref q_38, .ref q_39, .int 0, .int 0, .int 0, .ref q_40, .ref q_41, .ref q_42, .ref q_43, .int 0, .int 0, .int 0, .ref q_44, .int 0, .int 0, .int 0, .ref q_45, .ref q_46, .ref q_47, .ref q_48, .ref q_49, .ref q_50, .ref q_51, .ref q_52, .int 0, .ref q_53, .ref q_54, .ref q_55, .ref q_56])), (q_34, .inl (aC 0, 7, .inl (fun _ => 0)))]) [0, 1] (by decide) rfl
      have hFc := va_free (wc := [(q_31, .inr (12, [.ref q_34, .ref q_35, .ref q_36, .ref q_37, .ref q_38, .ref q_39, .int 0, .int 0, .int 0, .ref q_40, .ref q_41, .ref q_42, .ref q_43, .int 0, .int 0, .int 0, .ref q_44, .int 0, .int 0, .int 0, .ref q_45, .ref q_46, .ref q_47, .ref q_48, .ref q_49, .ref q_50, .ref q_51, .ref q_52, .int 0, .ref q_53, .ref q_54, .ref q_55, .ref q_56])), (q_34, .inl (aC 0, 7, .inl (fun _ => 0)))]) hD hS hA [0, 1] rfl
      refine va_calli (va_runV (As := [.int (xs 1)]) (rest := [.int x_169]) ⟨hx, hb, hml, hown, hts⟩ (c_X12_votes_r l dC dI aC H.size q_31 q_34 q_35 q_36 q_37 q_38 q_39 q_40 q_41 q_42 q_43 q_44 q_45 q_46 q_47 q_48 q_49 q_50 q_51 q_52 q_53 q_54 q_55 q_56 0 0 0 0 0 0 0 0 0 0 (fun _ => 0) (xs 1) (no0 _)) ⟨(callB_of 1 hts (gG kw_957) rfl rfl rfl (hts _ (gw kw_13 rfl)) (hts _ (gw kw_954 rfl)) (by decide +kernel) ⟨Nat.le_of_ble_eq_true rfl, Nat.le_of_ble_eq_true rfl⟩), (hts _ (gw kw_955 rfl)), (hts _ (gw kw_956 rfl))⟩ ⟨fun a U g mk q => by obtain ⟨q0, q1, qP, qK, qD, qN⟩ := q; exact ⟨q0, q1, qP, va_K.moved (u := U) (U := U.calling g mk a) (Vm.Alike.refl U.vm) qK, qD, NX.same (u := U) (U := U.calling g mk a) rfl qN⟩, va_recv hK hPc (ci := 12) (q0 := 0) rfl rfl, fun U hU hW => ⟨rfl, by rw [hU], by rw [hU]; exact hPc, va_K.moved hW.alike hK, hDc.weaken (fun _ _ _ _ => trivial), NX.warm hW hN⟩⟩ rfl rfl hl.1 rfl (lv_room (Nat.le_of_ble_eq_true rfl)) dL_law_347 ⟨Nat.le_of_ble_eq_true rfl, Nat.le_of_ble_eq_true rfl⟩) hS (fun q _ h => hFc q h) hFc (fun x_173 u t H1 locs ht hvm hw_173 hB hz1 hk1 hS => ?_)
      obtain ⟨hP1, hK1, hD1⟩ := hB
      rw [ht] at hP1
      clear hK1
      try dsimp only at hw_173
      obtain ⟨hP, hD⟩ := va_join (wr := []) (w1 := []) hP hD [0, 1] [] rfl rfl (by decide) (by decide) hk1 hFc hP1 hD1
      generalize H1 = H at hP hS ⊢
      have hP : va_P (dC, dI) classes [] H := hP
      have hD : va_D A [] := hD
      clear hPc hDc hFc hz1 hk1 hP1 hD1 ht hvm
      refine lv_icmp_eq (tgt := 908) hx hb dL_law_350 (by decide) (fun c_174 => ?_) (fun c_174 => ?_)
      · obtain ⟨x_175, e_175⟩ : ∃ y : Int32, y = 0 + 5 := ⟨_, rfl⟩
        refine lv_iinc (v := x_175) (lv' := [(3, .int x_175), (2, .ref q_31), (1, .ref q_1), (0, .ref b)]) hx hb dL_law_908 hl (k := 0) rfl (by rw [e_175]; rfl) (by decide) rfl (fun ls hl => ?_)
        have h9 : x_175 = 5 := by rw [e_175]; decide
        subst h9
        refine lv_goto (tgt := 18) hx hb dL_law_911 (by decide) ?_
        refine lv_iload_n hx hb dL_law_18 rfl (lv_at hl 0 rfl) ?_
        refine lv_aload_n hx hb dL_law_19 rfl (lv_at hl 3 rfl) ?_
        refine va_slen hx hb hX hbl hbA hS dL_law_20 ?_
        refine lv_topi (fun x_176 e_176 => ?_)
        refine lv_iconst (v := 5) hx hb dL_law_21 (by decide) ?_
        refine lv_isub hx hb dL_law_22 ?_
        refine lv_topi (fun x_177 e_177 => ?_)
        refine lv_icmp_gt (tgt := 914) hx hb dL_law_23 (by decide) (fun c_178 => ?_) (fun c_178 => ?_)
        · refine lv_iconst (v := 1) hx hb dL_law_914 (by decide) ?_
          refine va_forget (fun q hq => by have := hS.2.2 q hq; rw [hAe] at this; exact this) ?_
          refine W.widen (k := 600000) (n := 7302250) (Nat.le_of_ble_eq_true rfl) (Nat.le_of_ble_eq_true rfl) ?_
          exact lw_ret hx hb hr hlocks dL_law_915
        · exact absurd (by rw [e_177, e_176]; decide) c_178
      · exact absurd (by rw [hw_169, hw_173]) c_174
    by_cases c_179 : x_62 = 7
    · refine lv_tableIn (tgt := 355) hx hb dL_law_32 (by rw [c_179]; decide) (by rw [c_179]; decide) (by rw [c_179]; rfl) (by decide) ?_
      have hP : va_P (dC, dI) classes [(q_1, .inr (11, [.ref q_5, .ref q_6, .ref q_7, .ref q_8, .ref q_9, .ref q_10, .ref q_11, .ref q_12, .ref q_13, .ref q_14, .ref q_15, .int 0, .int 0, .int 1])), (q_7, .inr (4, [.ref q_16, .ref q_17, .ref q_18, .ref q_19, .ref q_20, .int 0, .int 0, .int 0])), (q_14, .inl (aC 0, 7, .inl (fun _ => 0))), (q_31, .inr (12, [.ref q_34, .ref q_35, .ref q_36, .ref q_37, .ref q_38, .ref q_39, .int 0, .int 0, .int 0, .ref q_40, .ref q_41, .ref q_42, .ref q_43, .int 0, .int 0, .int 0, .ref q_44, .int 0, .int 0, .int 0, .ref q_45, .ref q_46, .ref q_47, .ref q_48, .ref q_49, .ref q_50, .ref q_51, .ref q_52, .int 0, .ref q_53, .ref q_54, .ref q_55, .ref q_56])), (q_34, .inl (aC 0, 7, .inl (fun _ => 0)))] H := hP.sub [0, 1, 21, 22, 23] rfl
      have hD : va_D A [(q_1, .inr (11, [.ref q_5, .ref q_6, .ref q_7, .ref q_8, .ref q_9, .ref q_10, .ref q_11, .ref q_12, .ref q_13, .ref q_14, .ref q_15, .int 0, .int 0, .int 1])), (q_7, .inr (4, [.ref q_16, .ref q_17, .ref q_18, .ref q_19, .ref q_20, .int 0, .int 0, .int 0])), (q_14, .inl (aC 0, 7, .inl (fun _ => 0))), (q_31, .inr (12, [.ref q_34, .ref q_35, .ref q_36, .ref q_37, .ref q_38, .ref q_39, .int 0, .int 0, .int 0, .ref q_40, .ref q_41, .ref q_42, .ref q_43, .int 0, .int 0, .int 0, .ref q_44, .int 0, .int 0, .int 0, .ref q_45, .ref q_46, .ref q_47, .ref q_48, .ref q_49, .ref q_50, .ref q_51, .ref q_52, .int 0, .ref q_53, .ref q_54, .ref q_55, .ref q_56])), (q_34, .inl (aC 0, 7, .inl (fun _ => 0)))] := hD.sub [0, 1, 21, 22, 23] (by decide) rfl
      refine lv_aload_n hx hb dL_law_355 rfl (lv_at hl 2 rfl) ?_
      refine lv_aload_n hx hb dL_law_356 rfl (lv_at hl 3 rfl) ?_
      refine lv_iload_n hx hb dL_law_357 rfl (lv_at hl 0 rfl) ?_
      refine lv_iconst (v := 1) hx hb dL_law_358 (by decide) ?_
      refine lv_iadd hx hb dL_law_359 ?_
      refine lv_topi (fun x_180 e_180 => ?_)
      have h9 : x_180 = 1 := by rw [e_180]; decide
      subst h9
      have h_181 : vp_in 1 5 := by first | assumption | (unfold vp_in; decide) | exact vp_in_nI (by omega) (by omega) | (subst_vars; first | (unfold vp_in; decide) | exact vp_in_nI (by omega) (by omega))
      refine va_sld hx hb hX hbl hbA hS h_181 dL_law_360 ?_
      refine lv_topi (fun x_182 e_182 => ?_)
      have h9 : x_182 = (xs 1) := by rw [e_182]; rfl
      subst h9
      have hPc := hP.sub (ws' := [(q_1, .inr (11, [.ref q_5, .ref q_6, .ref q_7, .ref q_8, .ref q_9, .ref q_10, .ref q_11, .ref q_12, .ref q_13, .ref q_14, .ref q_15, .int 0, .int 0, .int 1])), (q_7, .inr (4, [.ref q_16, .ref q_17, .ref q_18, .ref q_19, .ref q_20, .int 0, .int 0, .int 0])), (q_14, .inl (aC 0, 7, .inl (fun _ => 0)))]) [0, 1, 2] rfl
      have hDc := hD.sub (ws' := [(q_1, .inr (11, [.ref q_5, .ref q_6, .ref q_7, .ref q_8, .ref q_9, .ref q_10, .ref q_11, .ref q_12, .ref q_13, .ref q_14, .ref q_15, .int 0, .int 0, .int 1])), (q_7, .inr (4, [.ref q_16, .ref q_17, .ref q_18, .ref q_19, .ref q_20, .int 0, .int 0, .int 0])), (q_14, .inl (aC 0, 7, .inl (fun _ => 0)))]) [0, 1, 2] (by decide) rfl
      have hFc := va_free (wc := [(q_1, .inr (11, [.ref q_5, .ref q_6, .ref q_7, .ref q_8, .ref q_9, .ref q_10, .ref q_11, .ref q_12, .ref q_13, .ref q_14, .ref q_15, .int 0, .int 0, .int 1])), (q_7, .inr (4, [.ref q_16, .ref q_17, .ref q_18, .ref q_19, .ref q_20, .int 0, .int 0, .int 0])), (q_14, .inl (aC 0, 7, .inl (fun _ => 0)))]) hD hS hA [0, 1, 2] rfl
      refine va_calli (va_runV (As := [.int (xs 1)]) (rest := []) ⟨hx, hb, hml, hown, hts⟩ (c_X11_carries_r l dC dI aC H.size q_1 q_5 q_6 q_7 q_8 q_9 q_10 q_11 q_12 q_13 q_14 q_15 0 0 1 q_16 q_17 q_18 q_19 q_20 0 0 0 (fun _ => 0) (xs 1) (no0 _)) ⟨(callB_of 1 hts (gG kw_498) rfl rfl rfl (hts _ (gw kw_1 rfl)) (hts _ (gw kw_495 rfl)) (by decide +kernel) ⟨Nat.le_of_ble_eq_true rfl, Nat.le_of_ble_eq_true rfl⟩), (hts _ (gw kw_496 rfl)), (hts _ (gw kw_497 rfl))⟩ ⟨fun a U g mk q => by obtain ⟨q0, q1, qP, qK, qD, qN⟩ := q; exact ⟨q0, q1, qP, va_K.moved (u := U) (U := U.calling g mk a) (Vm.Alike.refl U.vm) qK, qD, NX.same (u := U) (U := U.calling g mk a) rfl qN⟩, va_recv hK hPc (ci := 11) (q0 := 0) rfl rfl, fun U hU hW => ⟨rfl, by rw [hU], by rw [hU]; exact hPc, va_K.moved hW.alike hK, hDc.weaken (fun _ _ _ _ => trivial), NX.warm hW hN⟩⟩ rfl rfl hl.1 rfl (lv_room (Nat.le_of_ble_eq_true rfl)) dL_law_361 ⟨Nat.le_of_ble_eq_true rfl, Nat.le_of_ble_eq_true rfl⟩) hS (fun q _ h => hFc q h) hFc (fun x_183 u t H1 locs ht hvm hw_183 hB hz1 hk1 hS => ?_)
      obtain ⟨hP1, hK1, hD1⟩ := hB
      rw [ht] at hP1
      clear hK1
      try dsimp only at hw_183
      obtain ⟨hP, hD⟩ := va_join (wr := [(q_31, .inr (12, [.ref q_34, .ref q_35, .ref q_36, .ref q_37, .ref q_38, .ref q_39, .int 0, .int 0, .int 0, .ref q_40, .ref q_41, .ref q_42, .ref q_43, .int 0, .int 0, .int 0, .ref q_44, .int 0, .int 0, .int 0, .ref q_45, .ref q_46, .ref q_47, .ref q_48, .ref q_49, .ref q_50, .ref q_51, .ref q_52, .int 0, .ref q_53, .ref q_54, .ref q_55, .ref q_56])), (q_34, .inl (aC 0, 7, .inl (fun _ => 0)))]) (w1 := []) hP hD [0, 1, 2] [3, 4] rfl rfl (by decide) (by decide) hk1 hFc hP1 hD1
      generalize H1 = H at hP hS ⊢
      have hP : va_P (dC, dI) classes [(q_31, .inr (12, [.ref q_34, .ref q_35, .ref q_36, .ref q_37, .ref q_38, .ref q_39, .int 0, .int 0, .int 0, .ref q_40, .ref q_41, .ref q_42, .ref q_43, .int 0, .int 0, .int 0, .ref q_44, .int 0, .int 0, .int 0, .ref q_45, .ref q_46, .ref q_47, .ref q_48, .ref q_49, .ref q_50, .ref q_51, .ref q_52, .int 0, .ref q_53, .ref q_54, .ref q_55, .ref q_56])), (q_34, .inl (aC 0, 7, .inl (fun _ => 0)))] H := hP
      have hD : va_D A [(q_31, .inr (12, [.ref q_34, .ref q_35, .ref q_36, .ref q_37, .ref q_38, .ref q_39, .int 0, .int 0, .int 0, .ref q_40, .ref q_41, .ref q_42, .ref q_43, .int 0, .int 0, .int 0, .ref q_44, .int 0, .int 0, .int 0, .ref q_45, .ref q_46, .ref q_47, .ref q_48, .ref q_49, .ref q_50, .ref q_51, .ref q_52, .int 0, .ref q_53, .ref q_54, .ref q_55, .ref q_56])), (q_34, .inl (aC 0, 7, .inl (fun _ => 0)))] := hD
      clear hPc hDc hFc hz1 hk1 hP1 hD1 ht hvm
      refine lv_aload_n hx hb dL_law_364 rfl (lv_at hl 1 rfl) ?_
      refine lv_aload_n hx hb dL_law_365 rfl (lv_at hl 3 rfl) ?_
      refine lv_iload_n hx hb dL_law_366 rfl (lv_at hl 0 rfl) ?_
      refine lv_iconst (v := 1) hx hb dL_law_367 (by decide) ?_
      refine lv_iadd hx hb dL_law_368 ?_
      refine lv_topi (fun x_184 e_184 => ?_)
      have h9 : x_184 = 1 := by rw [e_184]; decide
      subst h9
      have h_185 : vp_in 1 5 := by first | assumption | (unfold vp_in; decide) | exact vp_in_nI (by omega) (by omega) | (subst_vars; first | (unfold vp_in; decide) | exact vp_in_nI (by omega) (by omega))
      refine va_sld hx hb hX hbl hbA hS h_185 dL_law_369 ?_
      refine lv_topi (fun x_186 e_186 => ?_)
      have h9 : x_186 = (xs 1) := by rw [e_186]; rfl
      subst h9
      have hPc := hP.sub (ws' := [(q_31, .inr (12, [.ref q_34, .ref q_35, .ref q_36, .ref q_37, .ref q_38, .ref q_39, .int 0, .int 0, .int 0, .ref q_40, .ref q_41, .ref q_42, .ref q_43, .int 0, .int 0, .int 0, .ref q_44, .int 0, .int 0, .int 0, .ref q_45, .ref q_46, .ref q_47, .ref q_48, .ref q_49, .ref q_50, .ref q_51, .ref q_52, .int 0, .ref q_53, .ref q_54, .ref q_55, .ref q_56])), (q_34, .inl (aC 0, 7, .inl (fun _ => 0)))]) [0, 1] rfl
      have hDc := hD.sub (ws' := [(q_31, .inr (12, [.ref q_34, .ref q_35, .ref q_36, .ref q_37, .ref q_38, .ref q_39, .int 0, .int 0, .int 0, .ref q_40, .ref q_41, .ref q_42, .ref q_43, .int 0, .int 0, .int 0, .ref q_44, .int 0, .int 0, .int 0, .ref q_45, .ref q_46, .ref q_47, .ref q_48, .ref q_49, .ref q_50, .ref q_51, .ref q_52, .int 0, .ref q_53, .ref q_54, .ref q_55, .ref q_56])), (q_34, .inl (aC 0, 7, .inl (fun _ => 0)))]) [0, 1] (by decide) rfl
      have hFc := va_free (wc := [(q_31, .inr (12, [.ref q_34, .ref q_35, .ref q_36, .ref q_37, .ref q_38, .ref q_39, .int 0, .int 0, .int 0, .ref q_40, .ref q_41, .ref q_42, .ref q_43, .int 0, .int 0, .int 0, .ref q_44, .int 0, .int 0, .int 0, .ref q_45, .ref q_46, .ref q_47, .ref q_48, .ref q_49, .ref q_50, .ref q_51, .ref q_52, .int 0, .ref q_53, .ref q_54, .ref q_55, .ref q_56])), (q_34, .inl (aC 0, 7, .inl (fun _ => 0)))]) hD hS hA [0, 1] rfl
      refine va_calli (va_runV (As := [.int (xs 1)]) (rest := [.int x_183]) ⟨hx, hb, hml, hown, hts⟩ (c_X12_carries_r l dC dI aC H.size q_31 q_34 q_35 q_36 q_37 q_38 q_39 q_40 q_41 q_42 q_43 q_44 q_45 q_46 q_47 q_48 q_49 q_50 q_51 q_52 q_53 q_54 q_55 q_56 0 0 0 0 0 0 0 0 0 0 (fun _ => 0) (xs 1) (no0 _)) ⟨(callB_of 1 hts (gG kw_961) rfl rfl rfl (hts _ (gw kw_13 rfl)) (hts _ (gw kw_958 rfl)) (by decide +kernel) ⟨Nat.le_of_ble_eq_true rfl, Nat.le_of_ble_eq_true rfl⟩), (hts _ (gw kw_959 rfl)), (hts _ (gw kw_960 rfl))⟩ ⟨fun a U g mk q => by obtain ⟨q0, q1, qP, qK, qD, qN⟩ := q; exact ⟨q0, q1, qP, va_K.moved (u := U) (U := U.calling g mk a) (Vm.Alike.refl U.vm) qK, qD, NX.same (u := U) (U := U.calling g mk a) rfl qN⟩, va_recv hK hPc (ci := 12) (q0 := 0) rfl rfl, fun U hU hW => ⟨rfl, by rw [hU], by rw [hU]; exact hPc, va_K.moved hW.alike hK, hDc.weaken (fun _ _ _ _ => trivial), NX.warm hW hN⟩⟩ rfl rfl hl.1 rfl (lv_room (Nat.le_of_ble_eq_true rfl)) dL_law_370 ⟨Nat.le_of_ble_eq_true rfl, Nat.le_of_ble_eq_true rfl⟩) hS (fun q _ h => hFc q h) hFc (fun x_187 u t H1 locs ht hvm hw_187 hB hz1 hk1 hS => ?_)
      obtain ⟨hP1, hK1, hD1⟩ := hB
      rw [ht] at hP1
      clear hK1
      try dsimp only at hw_187
      obtain ⟨hP, hD⟩ := va_join (wr := []) (w1 := []) hP hD [0, 1] [] rfl rfl (by decide) (by decide) hk1 hFc hP1 hD1
      generalize H1 = H at hP hS ⊢
      have hP : va_P (dC, dI) classes [] H := hP
      have hD : va_D A [] := hD
      clear hPc hDc hFc hz1 hk1 hP1 hD1 ht hvm
      refine lv_icmp_eq (tgt := 908) hx hb dL_law_373 (by decide) (fun c_188 => ?_) (fun c_188 => ?_)
      · obtain ⟨x_189, e_189⟩ : ∃ y : Int32, y = 0 + 5 := ⟨_, rfl⟩
        refine lv_iinc (v := x_189) (lv' := [(3, .int x_189), (2, .ref q_31), (1, .ref q_1), (0, .ref b)]) hx hb dL_law_908 hl (k := 0) rfl (by rw [e_189]; rfl) (by decide) rfl (fun ls hl => ?_)
        have h9 : x_189 = 5 := by rw [e_189]; decide
        subst h9
        refine lv_goto (tgt := 18) hx hb dL_law_911 (by decide) ?_
        refine lv_iload_n hx hb dL_law_18 rfl (lv_at hl 0 rfl) ?_
        refine lv_aload_n hx hb dL_law_19 rfl (lv_at hl 3 rfl) ?_
        refine va_slen hx hb hX hbl hbA hS dL_law_20 ?_
        refine lv_topi (fun x_190 e_190 => ?_)
        refine lv_iconst (v := 5) hx hb dL_law_21 (by decide) ?_
        refine lv_isub hx hb dL_law_22 ?_
        refine lv_topi (fun x_191 e_191 => ?_)
        refine lv_icmp_gt (tgt := 914) hx hb dL_law_23 (by decide) (fun c_192 => ?_) (fun c_192 => ?_)
        · refine lv_iconst (v := 1) hx hb dL_law_914 (by decide) ?_
          refine va_forget (fun q hq => by have := hS.2.2 q hq; rw [hAe] at this; exact this) ?_
          refine W.widen (k := 600000) (n := 7302250) (Nat.le_of_ble_eq_true rfl) (Nat.le_of_ble_eq_true rfl) ?_
          exact lw_ret hx hb hr hlocks dL_law_915
        · exact absurd (by rw [e_191, e_190]; decide) c_192
      · exact absurd (by rw [hw_183, hw_187]) c_188
    by_cases c_193 : x_62 = 8
    · refine lv_tableIn (tgt := 378) hx hb dL_law_32 (by rw [c_193]; decide) (by rw [c_193]; decide) (by rw [c_193]; rfl) (by decide) ?_
      have hP : va_P (dC, dI) classes [(q_1, .inr (11, [.ref q_5, .ref q_6, .ref q_7, .ref q_8, .ref q_9, .ref q_10, .ref q_11, .ref q_12, .ref q_13, .ref q_14, .ref q_15, .int 0, .int 0, .int 1])), (q_7, .inr (4, [.ref q_16, .ref q_17, .ref q_18, .ref q_19, .ref q_20, .int 0, .int 0, .int 0])), (q_14, .inl (aC 0, 7, .inl (fun _ => 0))), (q_31, .inr (12, [.ref q_34, .ref q_35, .ref q_36, .ref q_37, .ref q_38, .ref q_39, .int 0, .int 0, .int 0, .ref q_40, .ref q_41, .ref q_42, .ref q_43, .int 0, .int 0, .int 0, .ref q_44, .int 0, .int 0, .int 0, .ref q_45, .ref q_46, .ref q_47, .ref q_48, .ref q_49, .ref q_50, .ref q_51, .ref q_52, .int 0, .ref q_53, .ref q_54, .ref q_55, .ref q_56])), (q_34, .inl (aC 0, 7, .inl (fun _ => 0)))] H := hP.sub [0, 1, 21, 22, 23] rfl
      have hD : va_D A [(q_1, .inr (11, [.ref q_5, .ref q_6, .ref q_7, .ref q_8, .ref q_9, .ref q_10, .ref q_11, .ref q_12, .ref q_13, .ref q_14, .ref q_15, .int 0, .int 0, .int 1])), (q_7, .inr (4, [.ref q_16, .ref q_17, .ref q_18, .ref q_19, .ref q_20, .int 0, .int 0, .int 0])), (q_14, .inl (aC 0, 7, .inl (fun _ => 0))), (q_31, .inr (12, [.ref q_34, .ref q_35, .ref q_36, .ref q_37, .ref q_38, .ref q_39, .int 0, .int 0, .int 0, .ref q_40, .ref q_41, .ref q_42, .ref q_43, .int 0, .int 0, .int 0, .ref q_44, .int 0, .int 0, .int 0, .ref q_45, .ref q_46, .ref q_47, .ref q_48, .ref q_49, .ref q_50, .ref q_51, .ref q_52, .int 0, .ref q_53, .ref q_54, .ref q_55, .ref q_56])), (q_34, .inl (aC 0, 7, .inl (fun _ => 0)))] := hD.sub [0, 1, 21, 22, 23] (by decide) rfl
      refine lv_aload_n hx hb dL_law_378 rfl (lv_at hl 2 rfl) ?_
      refine lv_aload_n hx hb dL_law_379 rfl (lv_at hl 3 rfl) ?_
      refine lv_iload_n hx hb dL_law_380 rfl (lv_at hl 0 rfl) ?_
      refine lv_iconst (v := 1) hx hb dL_law_381 (by decide) ?_
      refine lv_iadd hx hb dL_law_382 ?_
      refine lv_topi (fun x_194 e_194 => ?_)
      have h9 : x_194 = 1 := by rw [e_194]; decide
      subst h9
      have h_195 : vp_in 1 5 := by first | assumption | (unfold vp_in; decide) | exact vp_in_nI (by omega) (by omega) | (subst_vars; first | (unfold vp_in; decide) | exact vp_in_nI (by omega) (by omega))
      refine va_sld hx hb hX hbl hbA hS h_195 dL_law_383 ?_
      refine lv_topi (fun x_196 e_196 => ?_)
      have h9 : x_196 = (xs 1) := by rw [e_196]; rfl
      subst h9
      have hPc := hP.sub (ws' := [(q_1, .inr (11, [.ref q_5, .ref q_6, .ref q_7, .ref q_8, .ref q_9, .ref q_10, .ref q_11, .ref q_12, .ref q_13, .ref q_14, .ref q_15, .int 0, .int 0, .int 1])), (q_7, .inr (4, [.ref q_16, .ref q_17, .ref q_18, .ref q_19, .ref q_20, .int 0, .int 0, .int 0])), (q_14, .inl (aC 0, 7, .inl (fun _ => 0)))]) [0, 1, 2] rfl
      have hDc := hD.sub (ws' := [(q_1, .inr (11, [.ref q_5, .ref q_6, .ref q_7, .ref q_8, .ref q_9, .ref q_10, .ref q_11, .ref q_12, .ref q_13, .ref q_14, .ref q_15, .int 0, .int 0, .int 1])), (q_7, .inr (4, [.ref q_16, .ref q_17, .ref q_18, .ref q_19, .ref q_20, .int 0, .int 0, .int 0])), (q_14, .inl (aC 0, 7, .inl (fun _ => 0)))]) [0, 1, 2] (by decide) rfl
      have hFc := va_free (wc := [(q_1, .inr (11, [.ref q_5, .ref q_6, .ref q_7, .ref q_8, .ref q_9, .ref q_10, .ref q_11, .ref q_12, .ref q_13, .ref q_14, .ref q_15, .int 0, .int 0, .int 1])), (q_7, .inr (4, [.ref q_16, .ref q_17, .ref q_18, .ref q_19, .ref q_20, .int 0, .int 0, .int 0])), (q_14, .inl (aC 0, 7, .inl (fun _ => 0)))]) hD hS hA [0, 1, 2] rfl
      refine va_calli (va_runV (As := [.int (xs 1)]) (rest := []) ⟨hx, hb, hml, hown, hts⟩ (c_X11_ends_r l dC dI aC H.size q_1 q_5 q_6 q_7 q_8 q_9 q_10 q_11 q_12 q_13 q_14 q_15 0 0 1 q_16 q_17 q_18 q_19 q_20 0 0 0 (fun _ => 0) (xs 1) (no0 _)) ⟨(callB_of 1 hts (gG kw_502) rfl rfl rfl (hts _ (gw kw_1 rfl)) (hts _ (gw kw_499 rfl)) (by decide +kernel) ⟨Nat.le_of_ble_eq_true rfl, Nat.le_of_ble_eq_true rfl⟩), (hts _ (gw kw_500 rfl)), (hts _ (gw kw_501 rfl))⟩ ⟨fun a U g mk q => by obtain ⟨q0, q1, qP, qK, qD, qN⟩ := q; exact ⟨q0, q1, qP, va_K.moved (u := U) (U := U.calling g mk a) (Vm.Alike.refl U.vm) qK, qD, NX.same (u := U) (U := U.calling g mk a) rfl qN⟩, va_recv hK hPc (ci := 11) (q0 := 0) rfl rfl, fun U hU hW => ⟨rfl, by rw [hU], by rw [hU]; exact hPc, va_K.moved hW.alike hK, hDc.weaken (fun _ _ _ _ => trivial), NX.warm hW hN⟩⟩ rfl rfl hl.1 rfl (lv_room (Nat.le_of_ble_eq_true rfl)) dL_law_384 ⟨Nat.le_of_ble_eq_true rfl, Nat.le_of_ble_eq_true rfl⟩) hS (fun q _ h => hFc q h) hFc (fun x_197 u t H1 locs ht hvm hw_197 hB hz1 hk1 hS => ?_)
      obtain ⟨hP1, hK1, hD1⟩ := hB
      rw [ht] at hP1
      clear hK1
      try dsimp only at hw_197
      obtain ⟨hP, hD⟩ := va_join (wr := [(q_31, .inr (12, [.ref q_34, .ref q_35, .ref q_36, .ref q_37, .ref q_38, .ref q_39, .int 0, .int 0, .int 0, .ref q_40, .ref q_41, .ref q_42, .ref q_43, .int 0, .int 0, .int 0, .ref q_44, .int 0, .int 0, .int 0, .ref q_45, .ref q_46, .ref q_47, .ref q_48, .ref q_49, .ref q_50, .ref q_51, .ref q_52, .int 0, .ref q_53, .ref q_54, .ref q_55, .ref q_56])), (q_34, .inl (aC 0, 7, .inl (fun _ => 0)))]) (w1 := []) hP hD [0, 1, 2] [3, 4] rfl rfl (by decide) (by decide) hk1 hFc hP1 hD1
      generalize H1 = H at hP hS ⊢
      have hP : va_P (dC, dI) classes [(q_31, .inr (12, [.ref q_34, .ref q_35, .ref q_36, .ref q_37, .ref q_38, .ref q_39, .int 0, .int 0, .int 0, .ref q_40, .ref q_41, .ref q_42, .ref q_43, .int 0, .int 0, .int 0, .ref q_44, .int 0, .int 0, .int 0, .ref q_45, .ref q_46, .ref q_47, .ref q_48, .ref q_49, .ref q_50, .ref q_51, .ref q_52, .int 0, .ref q_53, .ref q_54, .ref q_55, .ref q_56])), (q_34, .inl (aC 0, 7, .inl (fun _ => 0)))] H := hP
      have hD : va_D A [(q_31, .inr (12, [.ref q_34, .ref q_35, .ref q_36, .ref q_37, .ref q_38, .ref q_39, .int 0, .int 0, .int 0, .ref q_40, .ref q_41, .ref q_42, .ref q_43, .int 0, .int 0, .int 0, .ref q_44, .int 0, .int 0, .int 0, .ref q_45, .ref q_46, .ref q_47, .ref q_48, .ref q_49, .ref q_50, .ref q_51, .ref q_52, .int 0, .ref q_53, .ref q_54, .ref q_55, .ref q_56])), (q_34, .inl (aC 0, 7, .inl (fun _ => 0)))] := hD
      clear hPc hDc hFc hz1 hk1 hP1 hD1 ht hvm
      refine lv_aload_n hx hb dL_law_387 rfl (lv_at hl 1 rfl) ?_
      refine lv_aload_n hx hb dL_law_388 rfl (lv_at hl 3 rfl) ?_
      refine lv_iload_n hx hb dL_law_389 rfl (lv_at hl 0 rfl) ?_
      refine lv_iconst (v := 1) hx hb dL_law_390 (by decide) ?_
      refine lv_iadd hx hb dL_law_391 ?_
      refine lv_topi (fun x_198 e_198 => ?_)
      have h9 : x_198 = 1 := by rw [e_198]; decide
      subst h9
      have h_199 : vp_in 1 5 := by first | assumption | (unfold vp_in; decide) | exact vp_in_nI (by omega) (by omega) | (subst_vars; first | (unfold vp_in; decide) | exact vp_in_nI (by omega) (by omega))
      refine va_sld hx hb hX hbl hbA hS h_199 dL_law_392 ?_
      refine lv_topi (fun x_200 e_200 => ?_)
      have h9 : x_200 = (xs 1) := by rw [e_200]; rfl
      subst h9
      have hPc := hP.sub (ws' := [(q_31, .inr (12, [.ref q_34, .ref q_35, .ref q_36, .ref q_37, .ref q_38, .ref q_39, .int 0, .int 0, .int 0, .ref q_40, .ref q_41, .ref q_42, .ref q_43, .int 0, .int 0, .int 0, .ref q_44, .int 0, .int 0, .int 0, .ref q_45, .ref q_46, .ref q_47, .ref q_48, .ref q_49, .ref q_50, .ref q_51, .ref q_52, .int 0, .ref q_53, .ref q_54, .ref q_55, .ref q_56])), (q_34, .inl (aC 0, 7, .inl (fun _ => 0)))]) [0, 1] rfl
      have hDc := hD.sub (ws' := [(q_31, .inr (12, [.ref q_34, .ref q_35, .ref q_36, .ref q_37, .ref q_38, .ref q_39, .int 0, .int 0, .int 0, .ref q_40, .ref q_41, .ref q_42, .ref q_43, .int 0, .int 0, .int 0, .ref q_44, .int 0, .int 0, .int 0, .ref q_45, .ref q_46, .ref q_47, .ref q_48, .ref q_49, .ref q_50, .ref q_51, .ref q_52, .int 0, .ref q_53, .ref q_54, .ref q_55, .ref q_56])), (q_34, .inl (aC 0, 7, .inl (fun _ => 0)))]) [0, 1] (by decide) rfl
      have hFc := va_free (wc := [(q_31, .inr (12, [.ref q_34, .ref q_35, .ref q_36, .ref q_37, .ref q_38, .ref q_39, .int 0, .int 0, .int 0, .ref q_40, .ref q_41, .ref q_42, .ref q_43, .int 0, .int 0, .int 0, .ref q_44, .int 0, .int 0, .int 0, .ref q_45, .ref q_46, .ref q_47, .ref q_48, .ref q_49, .ref q_50, .ref q_51, .ref q_52, .int 0, .ref q_53, .ref q_54, .ref q_55, .ref q_56])), (q_34, .inl (aC 0, 7, .inl (fun _ => 0)))]) hD hS hA [0, 1] rfl
      refine va_calli (va_runV (As := [.int (xs 1)]) (rest := [.int x_197]) ⟨hx, hb, hml, hown, hts⟩ (c_X12_ends_r l dC dI aC H.size q_31 q_34 q_35 q_36 q_37 q_38 q_39 q_40 q_41 q_42 q_43 q_44 q_45 q_46 q_47 q_48 q_49 q_50 q_51 q_52 q_53 q_54 q_55 q_56 0 0 0 0 0 0 0 0 0 0 (fun _ => 0) (xs 1) (no0 _)) ⟨(callB_of 1 hts (gG kw_965) rfl rfl rfl (hts _ (gw kw_13 rfl)) (hts _ (gw kw_962 rfl)) (by decide +kernel) ⟨Nat.le_of_ble_eq_true rfl, Nat.le_of_ble_eq_true rfl⟩), (hts _ (gw kw_963 rfl)), (hts _ (gw kw_964 rfl))⟩ ⟨fun a U g mk q => by obtain ⟨q0, q1, qP, qK, qD, qN⟩ := q; exact ⟨q0, q1, qP, va_K.moved (u := U) (U := U.calling g mk a) (Vm.Alike.refl U.vm) qK, qD, NX.same (u := U) (U := U.calling g mk a) rfl qN⟩, va_recv hK hPc (ci := 12) (q0 := 0) rfl rfl, fun U hU hW => ⟨rfl, by rw [hU], by rw [hU]; exact hPc, va_K.moved hW.alike hK, hDc.weaken (fun _ _ _ _ => trivial), NX.warm hW hN⟩⟩ rfl rfl hl.1 rfl (lv_room (Nat.le_of_ble_eq_true rfl)) dL_law_393 ⟨Nat.le_of_ble_eq_true rfl, Nat.le_of_ble_eq_true rfl⟩) hS (fun q _ h => hFc q h) hFc (fun x_201 u t H1 locs ht hvm hw_201 hB hz1 hk1 hS => ?_)
      obtain ⟨hP1, hK1, hD1⟩ := hB
      rw [ht] at hP1
      clear hK1
      try dsimp only at hw_201
      obtain ⟨hP, hD⟩ := va_join (wr := []) (w1 := []) hP hD [0, 1] [] rfl rfl (by decide) (by decide) hk1 hFc hP1 hD1
      generalize H1 = H at hP hS ⊢
      have hP : va_P (dC, dI) classes [] H := hP
      have hD : va_D A [] := hD
      clear hPc hDc hFc hz1 hk1 hP1 hD1 ht hvm
      refine lv_icmp_eq (tgt := 908) hx hb dL_law_396 (by decide) (fun c_202 => ?_) (fun c_202 => ?_)
      · obtain ⟨x_203, e_203⟩ : ∃ y : Int32, y = 0 + 5 := ⟨_, rfl⟩
        refine lv_iinc (v := x_203) (lv' := [(3, .int x_203), (2, .ref q_31), (1, .ref q_1), (0, .ref b)]) hx hb dL_law_908 hl (k := 0) rfl (by rw [e_203]; rfl) (by decide) rfl (fun ls hl => ?_)
        have h9 : x_203 = 5 := by rw [e_203]; decide
        subst h9
        refine lv_goto (tgt := 18) hx hb dL_law_911 (by decide) ?_
        refine lv_iload_n hx hb dL_law_18 rfl (lv_at hl 0 rfl) ?_
        refine lv_aload_n hx hb dL_law_19 rfl (lv_at hl 3 rfl) ?_
        refine va_slen hx hb hX hbl hbA hS dL_law_20 ?_
        refine lv_topi (fun x_204 e_204 => ?_)
        refine lv_iconst (v := 5) hx hb dL_law_21 (by decide) ?_
        refine lv_isub hx hb dL_law_22 ?_
        refine lv_topi (fun x_205 e_205 => ?_)
        refine lv_icmp_gt (tgt := 914) hx hb dL_law_23 (by decide) (fun c_206 => ?_) (fun c_206 => ?_)
        · refine lv_iconst (v := 1) hx hb dL_law_914 (by decide) ?_
          refine va_forget (fun q hq => by have := hS.2.2 q hq; rw [hAe] at this; exact this) ?_
          refine W.widen (k := 600000) (n := 7302250) (Nat.le_of_ble_eq_true rfl) (Nat.le_of_ble_eq_true rfl) ?_
          exact lw_ret hx hb hr hlocks dL_law_915
        · exact absurd (by rw [e_205, e_204]; decide) c_206
      · exact absurd (by rw [hw_197, hw_201]) c_202
    by_cases c_207 : x_62 = 9
    · refine lv_tableIn (tgt := 401) hx hb dL_law_32 (by rw [c_207]; decide) (by rw [c_207]; decide) (by rw [c_207]; rfl) (by decide) ?_
      have hP : va_P (dC, dI) classes [(q_1, .inr (11, [.ref q_5, .ref q_6, .ref q_7, .ref q_8, .ref q_9, .ref q_10, .ref q_11, .ref q_12, .ref q_13, .ref q_14, .ref q_15, .int 0, .int 0, .int 1])), (q_7, .inr (4, [.ref q_16, .ref q_17, .ref q_18, .ref q_19, .ref q_20, .int 0, .int 0, .int 0])), (q_14, .inl (aC 0, 7, .inl (fun _ => 0))), (q_31, .inr (12, [.ref q_34, .ref q_35, .ref q_36, .ref q_37, .ref q_38, .ref q_39, .int 0, .int 0, .int 0, .ref q_40, .ref q_41, .ref q_42, .ref q_43, .int 0, .int 0, .int 0, .ref q_44, .int 0, .int 0, .int 0, .ref q_45, .ref q_46, .ref q_47, .ref q_48, .ref q_49, .ref q_50, .ref q_51, .ref q_52, .int 0, .ref q_53, .ref q_54, .ref q_55, .ref q_56])), (q_34, .inl (aC 0, 7, .inl (fun _ => 0)))] H := hP.sub [0, 1, 21, 22, 23] rfl
      have hD : va_D A [(q_1, .inr (11, [.ref q_5, .ref q_6, .ref q_7, .ref q_8, .ref q_9, .ref q_10, .ref q_11, .ref q_12, .ref q_13, .ref q_14, .ref q_15, .int 0, .int 0, .int 1])), (q_7, .inr (4, [.ref q_16, .ref q_17, .ref q_18, .ref q_19, .ref q_20, .int 0, .int 0, .int 0])), (q_14, .inl (aC 0, 7, .inl (fun _ => 0))), (q_31, .inr (12, [.ref q_34, .ref q_35, .ref q_36, .ref q_37, .ref q_38, .ref q_39, .int 0, .int 0, .int 0, .ref q_40, .ref q_41, .ref q_42, .ref q_43, .int 0, .int 0, .int 0, .ref q_44, .int 0, .int 0, .int 0, .ref q_45, .ref q_46, .ref q_47, .ref q_48, .ref q_49, .ref q_50, .ref q_51, .ref q_52, .int 0, .ref q_53, .ref q_54, .ref q_55, .ref q_56])), (q_34, .inl (aC 0, 7, .inl (fun _ => 0)))] := hD.sub [0, 1, 21, 22, 23] (by decide) rfl
      refine lv_aload_n hx hb dL_law_401 rfl (lv_at hl 2 rfl) ?_
      refine lv_aload_n hx hb dL_law_402 rfl (lv_at hl 3 rfl) ?_
      refine lv_iload_n hx hb dL_law_403 rfl (lv_at hl 0 rfl) ?_
      refine lv_iconst (v := 1) hx hb dL_law_404 (by decide) ?_
      refine lv_iadd hx hb dL_law_405 ?_
      refine lv_topi (fun x_208 e_208 => ?_)
      have h9 : x_208 = 1 := by rw [e_208]; decide
      subst h9
      have h_209 : vp_in 1 5 := by first | assumption | (unfold vp_in; decide) | exact vp_in_nI (by omega) (by omega) | (subst_vars; first | (unfold vp_in; decide) | exact vp_in_nI (by omega) (by omega))
      refine va_sld hx hb hX hbl hbA hS h_209 dL_law_406 ?_
      refine lv_topi (fun x_210 e_210 => ?_)
      have h9 : x_210 = (xs 1) := by rw [e_210]; rfl
      subst h9
      refine lv_aload_n hx hb dL_law_407 rfl (lv_at hl 3 rfl) ?_
      refine lv_iload_n hx hb dL_law_408 rfl (lv_at hl 0 rfl) ?_
      refine lv_iconst (v := 2) hx hb dL_law_409 (by decide) ?_
      refine lv_iadd hx hb dL_law_410 ?_
      refine lv_topi (fun x_211 e_211 => ?_)
      have h9 : x_211 = 2 := by rw [e_211]; decide
      subst h9
      have h_212 : vp_in 2 5 := by first | assumption | (unfold vp_in; decide) | exact vp_in_nI (by omega) (by omega) | (subst_vars; first | (unfold vp_in; decide) | exact vp_in_nI (by omega) (by omega))
      refine va_sld hx hb hX hbl hbA hS h_212 dL_law_411 ?_
      refine lv_topi (fun x_213 e_213 => ?_)
      have h9 : x_213 = (xs 2) := by rw [e_213]; rfl
      subst h9
      have hPc := hP.sub (ws' := [(q_1, .inr (11, [.ref q_5, .ref q_6, .ref q_7, .ref q_8, .ref q_9, .ref q_10, .ref q_11, .ref q_12, .ref q_13, .ref q_14, .ref q_15, .int 0, .int 0, .int 1])), (q_7, .inr (4, [.ref q_16, .ref q_17, .ref q_18, .ref q_19, .ref q_20, .int 0, .int 0, .int 0])), (q_14, .inl (aC 0, 7, .inl (fun _ => 0)))]) [0, 1, 2] rfl
      have hDc := hD.sub (ws' := [(q_1, .inr (11, [.ref q_5, .ref q_6, .ref q_7, .ref q_8, .ref q_9, .ref q_10, .ref q_11, .ref q_12, .ref q_13, .ref q_14, .ref q_15, .int 0, .int 0, .int 1])), (q_7, .inr (4, [.ref q_16, .ref q_17, .ref q_18, .ref q_19, .ref q_20, .int 0, .int 0, .int 0])), (q_14, .inl (aC 0, 7, .inl (fun _ => 0)))]) [0, 1, 2] (by decide) rfl
      have hFc := va_free (wc := [(q_1, .inr (11, [.ref q_5, .ref q_6, .ref q_7, .ref q_8, .ref q_9, .ref q_10, .ref q_11, .ref q_12, .ref q_13, .ref q_14, .ref q_15, .int 0, .int 0, .int 1])), (q_7, .inr (4, [.ref q_16, .ref q_17, .ref q_18, .ref q_19, .ref q_20, .int 0, .int 0, .int 0])), (q_14, .inl (aC 0, 7, .inl (fun _ => 0)))]) hD hS hA [0, 1, 2] rfl
      refine va_calli (va_runV (As := [.int (xs 1), .int (xs 2)]) (rest := []) ⟨hx, hb, hml, hown, hts⟩ (c_X11_gets_r l dC dI aC H.size q_1 q_5 q_6 q_7 q_8 q_9 q_10 q_11 q_12 q_13 q_14 q_15 0 0 1 q_16 q_17 q_18 q_19 q_20 0 0 0 (fun _ => 0) (xs 1) (xs 2) (no0 _)) ⟨(callB_of 2 hts (gG kw_506) rfl rfl rfl (hts _ (gw kw_1 rfl)) (hts _ (gw kw_503 rfl)) (by decide +kernel) ⟨Nat.le_of_ble_eq_true rfl, Nat.le_of_ble_eq_true rfl⟩), (hts _ (gw kw_504 rfl)), (hts _ (gw kw_505 rfl))⟩ ⟨fun a U g mk q => by obtain ⟨q0, q1, qP, qK, qD, qN⟩ := q; exact ⟨q0, q1, qP, va_K.moved (u := U) (U := U.calling g mk a) (Vm.Alike.refl U.vm) qK, qD, NX.same (u := U) (U := U.calling g mk a) rfl qN⟩, va_recv hK hPc (ci := 11) (q0 := 0) rfl rfl, fun U hU hW => ⟨rfl, by rw [hU], by rw [hU]; exact hPc, va_K.moved hW.alike hK, hDc.weaken (fun _ _ _ _ => trivial), NX.warm hW hN⟩⟩ rfl rfl hl.1 rfl (lv_room (Nat.le_of_ble_eq_true rfl)) dL_law_412 ⟨Nat.le_of_ble_eq_true rfl, Nat.le_of_ble_eq_true rfl⟩) hS (fun q _ h => hFc q h) hFc (fun x_214 u t H1 locs ht hvm hw_214 hB hz1 hk1 hS => ?_)
      obtain ⟨hP1, hK1, hD1⟩ := hB
      rw [ht] at hP1
      clear hK1
      try dsimp only at hw_214
      obtain ⟨hP, hD⟩ := va_join (wr := [(q_31, .inr (12, [.ref q_34, .ref q_35, .ref q_36, .ref q_37, .ref q_38, .ref q_39, .int 0, .int 0, .int 0, .ref q_40, .ref q_41, .ref q_42, .ref q_43, .int 0, .int 0, .int 0, .ref q_44, .int 0, .int 0, .int 0, .ref q_45, .ref q_46, .ref q_47, .ref q_48, .ref q_49, .ref q_50, .ref q_51, .ref q_52, .int 0, .ref q_53, .ref q_54, .ref q_55, .ref q_56])), (q_34, .inl (aC 0, 7, .inl (fun _ => 0)))]) (w1 := []) hP hD [0, 1, 2] [3, 4] rfl rfl (by decide) (by decide) hk1 hFc hP1 hD1
      generalize H1 = H at hP hS ⊢
      have hP : va_P (dC, dI) classes [(q_31, .inr (12, [.ref q_34, .ref q_35, .ref q_36, .ref q_37, .ref q_38, .ref q_39, .int 0, .int 0, .int 0, .ref q_40, .ref q_41, .ref q_42, .ref q_43, .int 0, .int 0, .int 0, .ref q_44, .int 0, .int 0, .int 0, .ref q_45, .ref q_46, .ref q_47, .ref q_48, .ref q_49, .ref q_50, .ref q_51, .ref q_52, .int 0, .ref q_53, .ref q_54, .ref q_55, .ref q_56])), (q_34, .inl (aC 0, 7, .inl (fun _ => 0)))] H := hP
      have hD : va_D A [(q_31, .inr (12, [.ref q_34, .ref q_35, .ref q_36, .ref q_37, .ref q_38, .ref q_39, .int 0, .int 0, .int 0, .ref q_40, .ref q_41, .ref q_42, .ref q_43, .int 0, .int 0, .int 0, .ref q_44, .int 0, .int 0, .int 0, .ref q_45, .ref q_46, .ref q_47, .ref q_48, .ref q_49, .ref q_50, .ref q_51, .ref q_52, .int 0, .ref q_53, .ref q_54, .ref q_55, .ref q_56])), (q_34, .inl (aC 0, 7, .inl (fun _ => 0)))] := hD
      clear hPc hDc hFc hz1 hk1 hP1 hD1 ht hvm
      refine lv_aload_n hx hb dL_law_415 rfl (lv_at hl 1 rfl) ?_
      refine lv_aload_n hx hb dL_law_416 rfl (lv_at hl 3 rfl) ?_
      refine lv_iload_n hx hb dL_law_417 rfl (lv_at hl 0 rfl) ?_
      refine lv_iconst (v := 1) hx hb dL_law_418 (by decide) ?_
      refine lv_iadd hx hb dL_law_419 ?_
      refine lv_topi (fun x_215 e_215 => ?_)
      have h9 : x_215 = 1 := by rw [e_215]; decide
      subst h9
      have h_216 : vp_in 1 5 := by first | assumption | (unfold vp_in; decide) | exact vp_in_nI (by omega) (by omega) | (subst_vars; first | (unfold vp_in; decide) | exact vp_in_nI (by omega) (by omega))
      refine va_sld hx hb hX hbl hbA hS h_216 dL_law_420 ?_
      refine lv_topi (fun x_217 e_217 => ?_)
      have h9 : x_217 = (xs 1) := by rw [e_217]; rfl
      subst h9
      refine lv_aload_n hx hb dL_law_421 rfl (lv_at hl 3 rfl) ?_
      refine lv_iload_n hx hb dL_law_422 rfl (lv_at hl 0 rfl) ?_
      refine lv_iconst (v := 2) hx hb dL_law_423 (by decide) ?_
      refine lv_iadd hx hb dL_law_424 ?_
      refine lv_topi (fun x_218 e_218 => ?_)
      have h9 : x_218 = 2 := by rw [e_218]; decide
      subst h9
      have h_219 : vp_in 2 5 := by first | assumption | (unfold vp_in; decide) | exact vp_in_nI (by omega) (by omega) | (subst_vars; first | (unfold vp_in; decide) | exact vp_in_nI (by omega) (by omega))
      refine va_sld hx hb hX hbl hbA hS h_219 dL_law_425 ?_
      refine lv_topi (fun x_220 e_220 => ?_)
      have h9 : x_220 = (xs 2) := by rw [e_220]; rfl
      subst h9
      have hPc := hP.sub (ws' := [(q_31, .inr (12, [.ref q_34, .ref q_35, .ref q_36, .ref q_37, .ref q_38, .ref q_39, .int 0, .int 0, .int 0, .ref q_40, .ref q_41, .ref q_42, .ref q_43, .int 0, .int 0, .int 0, .ref q_44, .int 0, .int 0, .int 0, .ref q_45, .ref q_46, .ref q_47, .ref q_48, .ref q_49, .ref q_50, .ref q_51, .ref q_52, .int 0, .ref q_53, .ref q_54, .ref q_55, .ref q_56])), (q_34, .inl (aC 0, 7, .inl (fun _ => 0)))]) [0, 1] rfl
      have hDc := hD.sub (ws' := [(q_31, .inr (12, [.ref q_34, .ref q_35, .ref q_36, .ref q_37, .ref q_38, .ref q_39, .int 0, .int 0, .int 0, .ref q_40, .ref q_41, .ref q_42, .ref q_43, .int 0, .int 0, .int 0, .ref q_44, .int 0, .int 0, .int 0, .ref q_45, .ref q_46, .ref q_47, .ref q_48, .ref q_49, .ref q_50, .ref q_51, .ref q_52, .int 0, .ref q_53, .ref q_54, .ref q_55, .ref q_56])), (q_34, .inl (aC 0, 7, .inl (fun _ => 0)))]) [0, 1] (by decide) rfl
      have hFc := va_free (wc := [(q_31, .inr (12, [.ref q_34, .ref q_35, .ref q_36, .ref q_37, .ref q_38, .ref q_39, .int 0, .int 0, .int 0, .ref q_40, .ref q_41, .ref q_42, .ref q_43, .int 0, .int 0, .int 0, .ref q_44, .int 0, .int 0, .int 0, .ref q_45, .ref q_46, .ref q_47, .ref q_48, .ref q_49, .ref q_50, .ref q_51, .ref q_52, .int 0, .ref q_53, .ref q_54, .ref q_55, .ref q_56])), (q_34, .inl (aC 0, 7, .inl (fun _ => 0)))]) hD hS hA [0, 1] rfl
      refine va_calli (va_runV (As := [.int (xs 1), .int (xs 2)]) (rest := [.int x_214]) ⟨hx, hb, hml, hown, hts⟩ (c_X12_gets_r l dC dI aC H.size q_31 q_34 q_35 q_36 q_37 q_38 q_39 q_40 q_41 q_42 q_43 q_44 q_45 q_46 q_47 q_48 q_49 q_50 q_51 q_52 q_53 q_54 q_55 q_56 0 0 0 0 0 0 0 0 0 0 (fun _ => 0) (xs 1) (xs 2) (no0 _)) ⟨(callB_of 2 hts (gG kw_969) rfl rfl rfl (hts _ (gw kw_13 rfl)) (hts _ (gw kw_966 rfl)) (by decide +kernel) ⟨Nat.le_of_ble_eq_true rfl, Nat.le_of_ble_eq_true rfl⟩), (hts _ (gw kw_967 rfl)), (hts _ (gw kw_968 rfl))⟩ ⟨fun a U g mk q => by obtain ⟨q0, q1, qP, qK, qD, qN⟩ := q; exact ⟨q0, q1, qP, va_K.moved (u := U) (U := U.calling g mk a) (Vm.Alike.refl U.vm) qK, qD, NX.same (u := U) (U := U.calling g mk a) rfl qN⟩, va_recv hK hPc (ci := 12) (q0 := 0) rfl rfl, fun U hU hW => ⟨rfl, by rw [hU], by rw [hU]; exact hPc, va_K.moved hW.alike hK, hDc.weaken (fun _ _ _ _ => trivial), NX.warm hW hN⟩⟩ rfl rfl hl.1 rfl (lv_room (Nat.le_of_ble_eq_true rfl)) dL_law_426 ⟨Nat.le_of_ble_eq_true rfl, Nat.le_of_ble_eq_true rfl⟩) hS (fun q _ h => hFc q h) hFc (fun x_221 u t H1 locs ht hvm hw_221 hB hz1 hk1 hS => ?_)
      obtain ⟨hP1, hK1, hD1⟩ := hB
      rw [ht] at hP1
      clear hK1
      try dsimp only at hw_221
      obtain ⟨hP, hD⟩ := va_join (wr := []) (w1 := []) hP hD [0, 1] [] rfl rfl (by decide) (by decide) hk1 hFc hP1 hD1
      generalize H1 = H at hP hS ⊢
      have hP : va_P (dC, dI) classes [] H := hP
      have hD : va_D A [] := hD
      clear hPc hDc hFc hz1 hk1 hP1 hD1 ht hvm
      refine lv_icmp_eq (tgt := 908) hx hb dL_law_429 (by decide) (fun c_222 => ?_) (fun c_222 => ?_)
      · obtain ⟨x_223, e_223⟩ : ∃ y : Int32, y = 0 + 5 := ⟨_, rfl⟩
        refine lv_iinc (v := x_223) (lv' := [(3, .int x_223), (2, .ref q_31), (1, .ref q_1), (0, .ref b)]) hx hb dL_law_908 hl (k := 0) rfl (by rw [e_223]; rfl) (by decide) rfl (fun ls hl => ?_)
        have h9 : x_223 = 5 := by rw [e_223]; decide
        subst h9
        refine lv_goto (tgt := 18) hx hb dL_law_911 (by decide) ?_
        refine lv_iload_n hx hb dL_law_18 rfl (lv_at hl 0 rfl) ?_
        refine lv_aload_n hx hb dL_law_19 rfl (lv_at hl 3 rfl) ?_
        refine va_slen hx hb hX hbl hbA hS dL_law_20 ?_
        refine lv_topi (fun x_224 e_224 => ?_)
        refine lv_iconst (v := 5) hx hb dL_law_21 (by decide) ?_
        refine lv_isub hx hb dL_law_22 ?_
        refine lv_topi (fun x_225 e_225 => ?_)
        refine lv_icmp_gt (tgt := 914) hx hb dL_law_23 (by decide) (fun c_226 => ?_) (fun c_226 => ?_)
        · refine lv_iconst (v := 1) hx hb dL_law_914 (by decide) ?_
          refine va_forget (fun q hq => by have := hS.2.2 q hq; rw [hAe] at this; exact this) ?_
          refine W.widen (k := 600000) (n := 7302250) (Nat.le_of_ble_eq_true rfl) (Nat.le_of_ble_eq_true rfl) ?_
          exact lw_ret hx hb hr hlocks dL_law_915
        · exact absurd (by rw [e_225, e_224]; decide) c_226
      · exact absurd (by rw [hw_214, hw_221]) c_222
    by_cases c_227 : x_62 = 10
    · refine lv_tableIn (tgt := 434) hx hb dL_law_32 (by rw [c_227]; decide) (by rw [c_227]; decide) (by rw [c_227]; rfl) (by decide) ?_
      have hP : va_P (dC, dI) classes [(q_1, .inr (11, [.ref q_5, .ref q_6, .ref q_7, .ref q_8, .ref q_9, .ref q_10, .ref q_11, .ref q_12, .ref q_13, .ref q_14, .ref q_15, .int 0, .int 0, .int 1])), (q_7, .inr (4, [.ref q_16, .ref q_17, .ref q_18, .ref q_19, .ref q_20, .int 0, .int 0, .int 0])), (q_14, .inl (aC 0, 7, .inl (fun _ => 0))), (q_31, .inr (12, [.ref q_34, .ref q_35, .ref q_36, .ref q_37, .ref q_38, .ref q_39, .int 0, .int 0, .int 0, .ref q_40, .ref q_41, .ref q_42, .ref q_43, .int 0, .int 0, .int 0, .ref q_44, .int 0, .int 0, .int 0, .ref q_45, .ref q_46, .ref q_47, .ref q_48, .ref q_49, .ref q_50, .ref q_51, .ref q_52, .int 0, .ref q_53, .ref q_54, .ref q_55, .ref q_56])), (q_34, .inl (aC 0, 7, .inl (fun _ => 0)))] H := hP.sub [0, 1, 21, 22, 23] rfl
      have hD : va_D A [(q_1, .inr (11, [.ref q_5, .ref q_6, .ref q_7, .ref q_8, .ref q_9, .ref q_10, .ref q_11, .ref q_12, .ref q_13, .ref q_14, .ref q_15, .int 0, .int 0, .int 1])), (q_7, .inr (4, [.ref q_16, .ref q_17, .ref q_18, .ref q_19, .ref q_20, .int 0, .int 0, .int 0])), (q_14, .inl (aC 0, 7, .inl (fun _ => 0))), (q_31, .inr (12, [.ref q_34, .ref q_35, .ref q_36, .ref q_37, .ref q_38, .ref q_39, .int 0, .int 0, .int 0, .ref q_40, .ref q_41, .ref q_42, .ref q_43, .int 0, .int 0, .int 0, .ref q_44, .int 0, .int 0, .int 0, .ref q_45, .ref q_46, .ref q_47, .ref q_48, .ref q_49, .ref q_50, .ref q_51, .ref q_52, .int 0, .ref q_53, .ref q_54, .ref q_55, .ref q_56])), (q_34, .inl (aC 0, 7, .inl (fun _ => 0)))] := hD.sub [0, 1, 21, 22, 23] (by decide) rfl
      refine lv_aload_n hx hb dL_law_434 rfl (lv_at hl 2 rfl) ?_
      refine lv_aload_n hx hb dL_law_435 rfl (lv_at hl 3 rfl) ?_
      refine lv_iload_n hx hb dL_law_436 rfl (lv_at hl 0 rfl) ?_
      refine lv_iconst (v := 1) hx hb dL_law_437 (by decide) ?_
      refine lv_iadd hx hb dL_law_438 ?_
      refine lv_topi (fun x_228 e_228 => ?_)
      have h9 : x_228 = 1 := by rw [e_228]; decide
      subst h9
      have h_229 : vp_in 1 5 := by first | assumption | (unfold vp_in; decide) | exact vp_in_nI (by omega) (by omega) | (subst_vars; first | (unfold vp_in; decide) | exact vp_in_nI (by omega) (by omega))
      refine va_sld hx hb hX hbl hbA hS h_229 dL_law_439 ?_
      refine lv_topi (fun x_230 e_230 => ?_)
      have h9 : x_230 = (xs 1) := by rw [e_230]; rfl
      subst h9
      have hPc := hP.sub (ws' := [(q_1, .inr (11, [.ref q_5, .ref q_6, .ref q_7, .ref q_8, .ref q_9, .ref q_10, .ref q_11, .ref q_12, .ref q_13, .ref q_14, .ref q_15, .int 0, .int 0, .int 1])), (q_7, .inr (4, [.ref q_16, .ref q_17, .ref q_18, .ref q_19, .ref q_20, .int 0, .int 0, .int 0])), (q_14, .inl (aC 0, 7, .inl (fun _ => 0)))]) [0, 1, 2] rfl
      have hDc := hD.sub (ws' := [(q_1, .inr (11, [.ref q_5, .ref q_6, .ref q_7, .ref q_8, .ref q_9, .ref q_10, .ref q_11, .ref q_12, .ref q_13, .ref q_14, .ref q_15, .int 0, .int 0, .int 1])), (q_7, .inr (4, [.ref q_16, .ref q_17, .ref q_18, .ref q_19, .ref q_20, .int 0, .int 0, .int 0])), (q_14, .inl (aC 0, 7, .inl (fun _ => 0)))]) [0, 1, 2] (by decide) rfl
      have hFc := va_free (wc := [(q_1, .inr (11, [.ref q_5, .ref q_6, .ref q_7, .ref q_8, .ref q_9, .ref q_10, .ref q_11, .ref q_12, .ref q_13, .ref q_14, .ref q_15, .int 0, .int 0, .int 1])), (q_7, .inr (4, [.ref q_16, .ref q_17, .ref q_18, .ref q_19, .ref q_20, .int 0, .int 0, .int 0])), (q_14, .inl (aC 0, 7, .inl (fun _ => 0)))]) hD hS hA [0, 1, 2] rfl
      refine va_calli (va_runV (As := [.int (xs 1)]) (rest := []) ⟨hx, hb, hml, hown, hts⟩ (c_X11_bought_r l dC dI aC H.size q_1 q_5 q_6 q_7 q_8 q_9 q_10 q_11 q_12 q_13 q_14 q_15 0 0 1 q_16 q_17 q_18 q_19 q_20 0 0 0 (fun _ => 0) (xs 1) (no0 _)) ⟨(callB_of 1 hts (gG kw_511) rfl rfl rfl (hts _ (gw kw_1 rfl)) (hts _ (gw kw_508 rfl)) (by decide +kernel) ⟨Nat.le_of_ble_eq_true rfl, Nat.le_of_ble_eq_true rfl⟩), (hts _ (gw kw_509 rfl)), (hts _ (gw kw_510 rfl))⟩ ⟨fun a U g mk q => by obtain ⟨q0, q1, qP, qK, qD, qN⟩ := q; exact ⟨q0, q1, qP, va_K.moved (u := U) (U := U.calling g mk a) (Vm.Alike.refl U.vm) qK, qD, NX.same (u := U) (U := U.calling g mk a) rfl qN⟩, va_recv hK hPc (ci := 11) (q0 := 0) rfl rfl, fun U hU hW => ⟨rfl, by rw [hU], by rw [hU]; exact hPc, va_K.moved hW.alike hK, hDc.weaken (fun _ _ _ _ => trivial), NX.warm hW hN⟩⟩ rfl rfl hl.1 rfl (lv_room (Nat.le_of_ble_eq_true rfl)) dL_law_440 ⟨Nat.le_of_ble_eq_true rfl, Nat.le_of_ble_eq_true rfl⟩) hS (fun q _ h => hFc q h) hFc (fun x_231 u t H1 locs ht hvm hw_231 hB hz1 hk1 hS => ?_)
      obtain ⟨hP1, hK1, hD1⟩ := hB
      rw [ht] at hP1
      clear hK1
      try dsimp only at hw_231
      obtain ⟨hP, hD⟩ := va_join (wr := [(q_31, .inr (12, [.ref q_34, .ref q_35, .ref q_36, .ref q_37, .ref q_38, .ref q_39, .int 0, .int 0, .int 0, .ref q_40, .ref q_41, .ref q_42, .ref q_43, .int 0, .int 0, .int 0, .ref q_44, .int 0, .int 0, .int 0, .ref q_45, .ref q_46, .ref q_47, .ref q_48, .ref q_49, .ref q_50, .ref q_51, .ref q_52, .int 0, .ref q_53, .ref q_54, .ref q_55, .ref q_56])), (q_34, .inl (aC 0, 7, .inl (fun _ => 0)))]) (w1 := []) hP hD [0, 1, 2] [3, 4] rfl rfl (by decide) (by decide) hk1 hFc hP1 hD1
      generalize H1 = H at hP hS ⊢
      have hP : va_P (dC, dI) classes [(q_31, .inr (12, [.ref q_34, .ref q_35, .ref q_36, .ref q_37, .ref q_38, .ref q_39, .int 0, .int 0, .int 0, .ref q_40, .ref q_41, .ref q_42, .ref q_43, .int 0, .int 0, .int 0, .ref q_44, .int 0, .int 0, .int 0, .ref q_45, .ref q_46, .ref q_47, .ref q_48, .ref q_49, .ref q_50, .ref q_51, .ref q_52, .int 0, .ref q_53, .ref q_54, .ref q_55, .ref q_56])), (q_34, .inl (aC 0, 7, .inl (fun _ => 0)))] H := hP
      have hD : va_D A [(q_31, .inr (12, [.ref q_34, .ref q_35, .ref q_36, .ref q_37, .ref q_38, .ref q_39, .int 0, .int 0, .int 0, .ref q_40, .ref q_41, .ref q_42, .ref q_43, .int 0, .int 0, .int 0, .ref q_44, .int 0, .int 0, .int 0, .ref q_45, .ref q_46, .ref q_47, .ref q_48, .ref q_49, .ref q_50, .ref q_51, .ref q_52, .int 0, .ref q_53, .ref q_54, .ref q_55, .ref q_56])), (q_34, .inl (aC 0, 7, .inl (fun _ => 0)))] := hD
      clear hPc hDc hFc hz1 hk1 hP1 hD1 ht hvm
      refine lv_aload_n hx hb dL_law_443 rfl (lv_at hl 1 rfl) ?_
      refine lv_aload_n hx hb dL_law_444 rfl (lv_at hl 3 rfl) ?_
      refine lv_iload_n hx hb dL_law_445 rfl (lv_at hl 0 rfl) ?_
      refine lv_iconst (v := 1) hx hb dL_law_446 (by decide) ?_
      refine lv_iadd hx hb dL_law_447 ?_
      refine lv_topi (fun x_232 e_232 => ?_)
      have h9 : x_232 = 1 := by rw [e_232]; decide
      subst h9
      have h_233 : vp_in 1 5 := by first | assumption | (unfold vp_in; decide) | exact vp_in_nI (by omega) (by omega) | (subst_vars; first | (unfold vp_in; decide) | exact vp_in_nI (by omega) (by omega))
      refine va_sld hx hb hX hbl hbA hS h_233 dL_law_448 ?_
      refine lv_topi (fun x_234 e_234 => ?_)
      have h9 : x_234 = (xs 1) := by rw [e_234]; rfl
      subst h9
      have hPc := hP.sub (ws' := [(q_31, .inr (12, [.ref q_34, .ref q_35, .ref q_36, .ref q_37, .ref q_38, .ref q_39, .int 0, .int 0, .int 0, .ref q_40, .ref q_41, .ref q_42, .ref q_43, .int 0, .int 0, .int 0, .ref q_44, .int 0, .int 0, .int 0, .ref q_45, .ref q_46, .ref q_47, .ref q_48, .ref q_49, .ref q_50, .ref q_51, .ref q_52, .int 0, .ref q_53, .ref q_54, .ref q_55, .ref q_56])), (q_34, .inl (aC 0, 7, .inl (fun _ => 0)))]) [0, 1] rfl
      have hDc := hD.sub (ws' := [(q_31, .inr (12, [.ref q_34, .ref q_35, .ref q_36, .ref q_37, .ref q_38, .ref q_39, .int 0, .int 0, .int 0, .ref q_40, .ref q_41, .ref q_42, .ref q_43, .int 0, .int 0, .int 0, .ref q_44, .int 0, .int 0, .int 0, .ref q_45, .ref q_46, .ref q_47, .ref q_48, .ref q_49, .ref q_50, .ref q_51, .ref q_52, .int 0, .ref q_53, .ref q_54, .ref q_55, .ref q_56])), (q_34, .inl (aC 0, 7, .inl (fun _ => 0)))]) [0, 1] (by decide) rfl
      have hFc := va_free (wc := [(q_31, .inr (12, [.ref q_34, .ref q_35, .ref q_36, .ref q_37, .ref q_38, .ref q_39, .int 0, .int 0, .int 0, .ref q_40, .ref q_41, .ref q_42, .ref q_43, .int 0, .int 0, .int 0, .ref q_44, .int 0, .int 0, .int 0, .ref q_45, .ref q_46, .ref q_47, .ref q_48, .ref q_49, .ref q_50, .ref q_51, .ref q_52, .int 0, .ref q_53, .ref q_54, .ref q_55, .ref q_56])), (q_34, .inl (aC 0, 7, .inl (fun _ => 0)))]) hD hS hA [0, 1] rfl
      refine va_calli (va_runV (As := [.int (xs 1)]) (rest := [.int x_231]) ⟨hx, hb, hml, hown, hts⟩ (c_X12_bought_r l dC dI aC H.size q_31 q_34 q_35 q_36 q_37 q_38 q_39 q_40 q_41 q_42 q_43 q_44 q_45 q_46 q_47 q_48 q_49 q_50 q_51 q_52 q_53 q_54 q_55 q_56 0 0 0 0 0 0 0 0 0 0 (fun _ => 0) (xs 1) (no0 _)) ⟨(callB_of 1 hts (gG kw_978) rfl rfl rfl (hts _ (gw kw_13 rfl)) (hts _ (gw kw_975 rfl)) (by decide +kernel) ⟨Nat.le_of_ble_eq_true rfl, Nat.le_of_ble_eq_true rfl⟩), (hts _ (gw kw_976 rfl)), (hts _ (gw kw_977 rfl))⟩ ⟨fun a U g mk q => by obtain ⟨q0, q1, qP, qK, qD, qN⟩ := q; exact ⟨q0, q1, qP, va_K.moved (u := U) (U := U.calling g mk a) (Vm.Alike.refl U.vm) qK, qD, NX.same (u := U) (U := U.calling g mk a) rfl qN⟩, va_recv hK hPc (ci := 12) (q0 := 0) rfl rfl, fun U hU hW => ⟨rfl, by rw [hU], by rw [hU]; exact hPc, va_K.moved hW.alike hK, hDc.weaken (fun _ _ _ _ => trivial), NX.warm hW hN⟩⟩ rfl rfl hl.1 rfl (lv_room (Nat.le_of_ble_eq_true rfl)) dL_law_449 ⟨Nat.le_of_ble_eq_true rfl, Nat.le_of_ble_eq_true rfl⟩) hS (fun q _ h => hFc q h) hFc (fun x_235 u t H1 locs ht hvm hw_235 hB hz1 hk1 hS => ?_)
      obtain ⟨hP1, hK1, hD1⟩ := hB
      rw [ht] at hP1
      clear hK1
      try dsimp only at hw_235
      obtain ⟨hP, hD⟩ := va_join (wr := []) (w1 := []) hP hD [0, 1] [] rfl rfl (by decide) (by decide) hk1 hFc hP1 hD1
      generalize H1 = H at hP hS ⊢
      have hP : va_P (dC, dI) classes [] H := hP
      have hD : va_D A [] := hD
      clear hPc hDc hFc hz1 hk1 hP1 hD1 ht hvm
      refine lv_icmp_eq (tgt := 908) hx hb dL_law_452 (by decide) (fun c_236 => ?_) (fun c_236 => ?_)
      · obtain ⟨x_237, e_237⟩ : ∃ y : Int32, y = 0 + 5 := ⟨_, rfl⟩
        refine lv_iinc (v := x_237) (lv' := [(3, .int x_237), (2, .ref q_31), (1, .ref q_1), (0, .ref b)]) hx hb dL_law_908 hl (k := 0) rfl (by rw [e_237]; rfl) (by decide) rfl (fun ls hl => ?_)
        have h9 : x_237 = 5 := by rw [e_237]; decide
        subst h9
        refine lv_goto (tgt := 18) hx hb dL_law_911 (by decide) ?_
        refine lv_iload_n hx hb dL_law_18 rfl (lv_at hl 0 rfl) ?_
        refine lv_aload_n hx hb dL_law_19 rfl (lv_at hl 3 rfl) ?_
        refine va_slen hx hb hX hbl hbA hS dL_law_20 ?_
        refine lv_topi (fun x_238 e_238 => ?_)
        refine lv_iconst (v := 5) hx hb dL_law_21 (by decide) ?_
        refine lv_isub hx hb dL_law_22 ?_
        refine lv_topi (fun x_239 e_239 => ?_)
        refine lv_icmp_gt (tgt := 914) hx hb dL_law_23 (by decide) (fun c_240 => ?_) (fun c_240 => ?_)
        · refine lv_iconst (v := 1) hx hb dL_law_914 (by decide) ?_
          refine va_forget (fun q hq => by have := hS.2.2 q hq; rw [hAe] at this; exact this) ?_
          refine W.widen (k := 600000) (n := 7302250) (Nat.le_of_ble_eq_true rfl) (Nat.le_of_ble_eq_true rfl) ?_
          exact lw_ret hx hb hr hlocks dL_law_915
        · exact absurd (by rw [e_239, e_238]; decide) c_240
      · exact absurd (by rw [hw_231, hw_235]) c_236
    by_cases c_241 : x_62 = 11
    · refine lv_tableIn (tgt := 457) hx hb dL_law_32 (by rw [c_241]; decide) (by rw [c_241]; decide) (by rw [c_241]; rfl) (by decide) ?_
      have hP : va_P (dC, dI) classes [(q_1, .inr (11, [.ref q_5, .ref q_6, .ref q_7, .ref q_8, .ref q_9, .ref q_10, .ref q_11, .ref q_12, .ref q_13, .ref q_14, .ref q_15, .int 0, .int 0, .int 1])), (q_13, .inl (aC 0, 8, .inl (fun _ => 0))), (q_14, .inl (aC 0, 7, .inl (fun _ => 0))), (q_31, .inr (12, [.ref q_34, .ref q_35, .ref q_36, .ref q_37, .ref q_38, .ref q_39, .int 0, .int 0, .int 0, .ref q_40, .ref q_41, .ref q_42, .ref q_43, .int 0, .int 0, .int 0, .ref q_44, .int 0, .int 0, .int 0, .ref q_45, .ref q_46, .ref q_47, .ref q_48, .ref q_49, .ref q_50, .ref q_51, .ref q_52, .int 0, .ref q_53, .ref q_54, .ref q_55, .ref q_56])), (q_34, .inl (aC 0, 7, .inl (fun _ => 0))), (q_52, .inl (aC 0, 8, .inl (fun _ => 0)))] H := hP.sub [0, 20, 21, 22, 23, 31] rfl
      have hD : va_D A [(q_1, .inr (11, [.ref q_5, .ref q_6, .ref q_7, .ref q_8, .ref q_9, .ref q_10, .ref q_11, .ref q_12, .ref q_13, .ref q_14, .ref q_15, .int 0, .int 0, .int 1])), (q_13, .inl (aC 0, 8, .inl (fun _ => 0))), (q_14, .inl (aC 0, 7, .inl (fun _ => 0))), (q_31, .inr (12, [.ref q_34, .ref q_35, .ref q_36, .ref q_37, .ref q_38, .ref q_39, .int 0, .int 0, .int 0, .ref q_40, .ref q_41, .ref q_42, .ref q_43, .int 0, .int 0, .int 0, .ref q_44, .int 0, .int 0, .int 0, .ref q_45, .ref q_46, .ref q_47, .ref q_48, .ref q_49, .ref q_50, .ref q_51, .ref q_52, .int 0, .ref q_53, .ref q_54, .ref q_55, .ref q_56])), (q_34, .inl (aC 0, 7, .inl (fun _ => 0))), (q_52, .inl (aC 0, 8, .inl (fun _ => 0)))] := hD.sub [0, 20, 21, 22, 23, 31] (by decide) rfl
      refine lv_aload_n hx hb dL_law_457 rfl (lv_at hl 2 rfl) ?_
      refine lv_aload_n hx hb dL_law_458 rfl (lv_at hl 3 rfl) ?_
      refine lv_iload_n hx hb dL_law_459 rfl (lv_at hl 0 rfl) ?_
      refine lv_iconst (v := 1) hx hb dL_law_460 (by decide) ?_
      refine lv_iadd hx hb dL_law_461 ?_
      refine lv_topi (fun x_242 e_242 => ?_)
      have h9 : x_242 = 1 := by rw [e_242]; decide
      subst h9
      have h_243 : vp_in 1 5 := by first | assumption | (unfold vp_in; decide) | exact vp_in_nI (by omega) (by omega) | (subst_vars; first | (unfold vp_in; decide) | exact vp_in_nI (by omega) (by omega))
      refine va_sld hx hb hX hbl hbA hS h_243 dL_law_462 ?_
      refine lv_topi (fun x_244 e_244 => ?_)
      have h9 : x_244 = (xs 1) := by rw [e_244]; rfl
      subst h9
      have hPc := hP.sub (ws' := [(q_1, .inr (11, [.ref q_5, .ref q_6, .ref q_7, .ref q_8, .ref q_9, .ref q_10, .ref q_11, .ref q_12, .ref q_13, .ref q_14, .ref q_15, .int 0, .int 0, .int 1])), (q_13, .inl (aC 0, 8, .inl (fun _ => 0))), (q_14, .inl (aC 0, 7, .inl (fun _ => 0)))]) [0, 1, 2] rfl
      have hDc := hD.sub (ws' := [(q_1, .inr (11, [.ref q_5, .ref q_6, .ref q_7, .ref q_8, .ref q_9, .ref q_10, .ref q_11, .ref q_12, .ref q_13, .ref q_14, .ref q_15, .int 0, .int 0, .int 1])), (q_13, .inl (aC 0, 8, .inl (fun _ => 0))), (q_14, .inl (aC 0, 7, .inl (fun _ => 0)))]) [0, 1, 2] (by decide) rfl
      have hFc := va_free (wc := [(q_1, .inr (11, [.ref q_5, .ref q_6, .ref q_7, .ref q_8, .ref q_9, .ref q_10, .ref q_11, .ref q_12, .ref q_13, .ref q_14, .ref q_15, .int 0, .int 0, .int 1])), (q_13, .inl (aC 0, 8, .inl (fun _ => 0))), (q_14, .inl (aC 0, 7, .inl (fun _ => 0)))]) hD hS hA [0, 1, 2] rfl
      refine va_calli (va_runV (As := [.int (xs 1)]) (rest := []) ⟨hx, hb, hml, hown, hts⟩ (c_X11_row_0 l dC dI aC H.size q_1 q_5 q_6 q_7 q_8 q_9 q_10 q_11 q_12 q_13 q_14 q_15 0 1 (fun _ => 0) (fun _ => 0) (xs 1) ) ⟨(callB_of 1 hts (gG kw_515) rfl rfl rfl (hts _ (gw kw_1 rfl)) (hts _ (gw kw_512 rfl)) (by decide +kernel) ⟨Nat.le_of_ble_eq_true rfl, Nat.le_of_ble_eq_true rfl⟩), (hts _ (gw kw_513 rfl)), (hts _ (gw kw_514 rfl))⟩ ⟨fun a U g mk q => by obtain ⟨q0, q1, qP, qK, qD, qN⟩ := q; exact ⟨q0, q1, qP, va_K.moved (u := U) (U := U.calling g mk a) (Vm.Alike.refl U.vm) qK, qD, NX.same (u := U) (U := U.calling g mk a) rfl qN⟩, va_recv hK hPc (ci := 11) (q0 := 0) rfl rfl, fun U hU hW => ⟨rfl, by rw [hU], by rw [hU]; exact hPc, va_K.moved hW.alike hK, hDc.weaken (fun _ _ _ _ => trivial), NX.warm hW hN⟩⟩ rfl rfl hl.1 rfl (lv_room (Nat.le_of_ble_eq_true rfl)) dL_law_463 ⟨Nat.le_of_ble_eq_true rfl, Nat.le_of_ble_eq_true rfl⟩) hS (fun q _ h => hFc q h) hFc (fun x_245 u t H1 locs ht hvm hw_245 hB hz1 hk1 hS => ?_)
      obtain ⟨hP1, hK1, hD1⟩ := hB
      rw [ht] at hP1
      clear hK1
      try dsimp only at hw_245
      obtain ⟨hP, hD⟩ := va_join (wr := [(q_31, .inr (12, [.ref q_34, .ref q_35, .ref q_36, .ref q_37, .ref q_38, .ref q_39, .int 0, .int 0, .int 0, .ref q_40, .ref q_41, .ref q_42, .ref q_43, .int 0, .int 0, .int 0, .ref q_44, .int 0, .int 0, .int 0, .ref q_45, .ref q_46, .ref q_47, .ref q_48, .ref q_49, .ref q_50, .ref q_51, .ref q_52, .int 0, .ref q_53, .ref q_54, .ref q_55, .ref q_56])), (q_34, .inl (aC 0, 7, .inl (fun _ => 0))), (q_52, .inl (aC 0, 8, .inl (fun _ => 0)))]) (w1 := []) hP hD [0, 1, 2] [3, 4, 5] rfl rfl (by decide) (by decide) hk1 hFc hP1 hD1
      generalize H1 = H at hP hS ⊢
      have hP : va_P (dC, dI) classes [(q_31, .inr (12, [.ref q_34, .ref q_35, .ref q_36, .ref q_37, .ref q_38, .ref q_39, .int 0, .int 0, .int 0, .ref q_40, .ref q_41, .ref q_42, .ref q_43, .int 0, .int 0, .int 0, .ref q_44, .int 0, .int 0, .int 0, .ref q_45, .ref q_46, .ref q_47, .ref q_48, .ref q_49, .ref q_50, .ref q_51, .ref q_52, .int 0, .ref q_53, .ref q_54, .ref q_55, .ref q_56])), (q_34, .inl (aC 0, 7, .inl (fun _ => 0))), (q_52, .inl (aC 0, 8, .inl (fun _ => 0)))] H := hP
      have hD : va_D A [(q_31, .inr (12, [.ref q_34, .ref q_35, .ref q_36, .ref q_37, .ref q_38, .ref q_39, .int 0, .int 0, .int 0, .ref q_40, .ref q_41, .ref q_42, .ref q_43, .int 0, .int 0, .int 0, .ref q_44, .int 0, .int 0, .int 0, .ref q_45, .ref q_46, .ref q_47, .ref q_48, .ref q_49, .ref q_50, .ref q_51, .ref q_52, .int 0, .ref q_53, .ref q_54, .ref q_55, .ref q_56])), (q_34, .inl (aC 0, 7, .inl (fun _ => 0))), (q_52, .inl (aC 0, 8, .inl (fun _ => 0)))] := hD
      clear hPc hDc hFc hz1 hk1 hP1 hD1 ht hvm
      refine lv_aload_n hx hb dL_law_466 rfl (lv_at hl 1 rfl) ?_
      refine lv_aload_n hx hb dL_law_467 rfl (lv_at hl 3 rfl) ?_
      refine lv_iload_n hx hb dL_law_468 rfl (lv_at hl 0 rfl) ?_
      refine lv_iconst (v := 1) hx hb dL_law_469 (by decide) ?_
      refine lv_iadd hx hb dL_law_470 ?_
      refine lv_topi (fun x_246 e_246 => ?_)
      have h9 : x_246 = 1 := by rw [e_246]; decide
      subst h9
      have h_247 : vp_in 1 5 := by first | assumption | (unfold vp_in; decide) | exact vp_in_nI (by omega) (by omega) | (subst_vars; first | (unfold vp_in; decide) | exact vp_in_nI (by omega) (by omega))
      refine va_sld hx hb hX hbl hbA hS h_247 dL_law_471 ?_
      refine lv_topi (fun x_248 e_248 => ?_)
      have h9 : x_248 = (xs 1) := by rw [e_248]; rfl
      subst h9
      have hPc := hP.sub (ws' := [(q_31, .inr (12, [.ref q_34, .ref q_35, .ref q_36, .ref q_37, .ref q_38, .ref q_39, .int 0, .int 0, .int 0, .ref q_40, .ref q_41, .ref q_42, .ref q_43, .int 0, .int 0, .int 0, .ref q_44, .int 0, .int 0, .int 0, .ref q_45, .ref q_46, .ref q_47, .ref q_48, .ref q_49, .ref q_50, .ref q_51, .ref q_52, .int 0, .ref q_53, .ref q_54, .ref q_55, .ref q_56])), (q_52, .inl (aC 0, 8, .inl (fun _ => 0))), (q_34, .inl (aC 0, 7, .inl (fun _ => 0)))]) [0, 2, 1] rfl
      have hDc := hD.sub (ws' := [(q_31, .inr (12, [.ref q_34, .ref q_35, .ref q_36, .ref q_37, .ref q_38, .ref q_39, .int 0, .int 0, .int 0, .ref q_40, .ref q_41, .ref q_42, .ref q_43, .int 0, .int 0, .int 0, .ref q_44, .int 0, .int 0, .int 0, .ref q_45, .ref q_46, .ref q_47, .ref q_48, .ref q_49, .ref q_50, .ref q_51, .ref q_52, .int 0, .ref q_53, .ref q_54, .ref q_55, .ref q_56])), (q_52, .inl (aC 0, 8, .inl (fun _ => 0))), (q_34, .inl (aC 0, 7, .inl (fun _ => 0)))]) [0, 2, 1] (by decide) rfl
      have hFc := va_free (wc := [(q_31, .inr (12, [.ref q_34, .ref q_35, .ref q_36, .ref q_37, .ref q_38, .ref q_39, .int 0, .int 0, .int 0, .ref q_40, .ref q_41, .ref q_42, .ref q_43, .int 0, .int 0, .int 0, .ref q_44, .int 0, .int 0, .int 0, .ref q_45, .ref q_46, .ref q_47, .ref q_48, .ref q_49, .ref q_50, .ref q_51, .ref q_52, .int 0, .ref q_53, .ref q_54, .ref q_55, .ref q_56])), (q_52, .inl (aC 0, 8, .inl (fun _ => 0))), (q_34, .inl (aC 0, 7, .inl (fun _ => 0)))]) hD hS hA [0, 2, 1] rfl
      refine va_calli (va_runV (As := [.int (xs 1)]) (rest := [.int x_245]) ⟨hx, hb, hml, hown, hts⟩ (c_X12_row_0 l dC dI aC H.size q_31 q_34 q_35 q_36 q_37 q_38 q_39 q_40 q_41 q_42 q_43 q_44 q_45 q_46 q_47 q_48 q_49 q_50 q_51 q_52 q_53 q_54 q_55 q_56 0 0 0 0 0 0 0 0 0 (fun _ => 0) (fun _ => 0) (xs 1) ) ⟨(callB_of 1 hts (gG kw_982) rfl rfl rfl (hts _ (gw kw_13 rfl)) (hts _ (gw kw_979 rfl)) (by decide +kernel) ⟨Nat.le_of_ble_eq_true rfl, Nat.le_of_ble_eq_true rfl⟩), (hts _ (gw kw_980 rfl)), (hts _ (gw kw_981 rfl))⟩ ⟨fun a U g mk q => by obtain ⟨q0, q1, qP, qK, qD, qN⟩ := q; exact ⟨q0, q1, qP, va_K.moved (u := U) (U := U.calling g mk a) (Vm.Alike.refl U.vm) qK, qD, NX.same (u := U) (U := U.calling g mk a) rfl qN⟩, va_recv hK hPc (ci := 12) (q0 := 0) rfl rfl, fun U hU hW => ⟨rfl, by rw [hU], by rw [hU]; exact hPc, va_K.moved hW.alike hK, hDc.weaken (fun _ _ _ _ => trivial), NX.warm hW hN⟩⟩ rfl rfl hl.1 rfl (lv_room (Nat.le_of_ble_eq_true rfl)) dL_law_472 ⟨Nat.le_of_ble_eq_true rfl, Nat.le_of_ble_eq_true rfl⟩) hS (fun q _ h => hFc q h) hFc (fun x_249 u t H1 locs ht hvm hw_249 hB hz1 hk1 hS => ?_)
      obtain ⟨hP1, hK1, hD1⟩ := hB
      rw [ht] at hP1
      clear hK1
      try dsimp only at hw_249
      obtain ⟨hP, hD⟩ := va_join (wr := []) (w1 := []) hP hD [0, 2, 1] [] rfl rfl (by decide) (by decide) hk1 hFc hP1 hD1
      generalize H1 = H at hP hS ⊢
      have hP : va_P (dC, dI) classes [] H := hP
      have hD : va_D A [] := hD
      clear hPc hDc hFc hz1 hk1 hP1 hD1 ht hvm
      refine lv_icmp_eq (tgt := 908) hx hb dL_law_475 (by decide) (fun c_250 => ?_) (fun c_250 => ?_)
      · obtain ⟨x_251, e_251⟩ : ∃ y : Int32, y = 0 + 5 := ⟨_, rfl⟩
        refine lv_iinc (v := x_251) (lv' := [(3, .int x_251), (2, .ref q_31), (1, .ref q_1), (0, .ref b)]) hx hb dL_law_908 hl (k := 0) rfl (by rw [e_251]; rfl) (by decide) rfl (fun ls hl => ?_)
        have h9 : x_251 = 5 := by rw [e_251]; decide
        subst h9
        refine lv_goto (tgt := 18) hx hb dL_law_911 (by decide) ?_
        refine lv_iload_n hx hb dL_law_18 rfl (lv_at hl 0 rfl) ?_
        refine lv_aload_n hx hb dL_law_19 rfl (lv_at hl 3 rfl) ?_
        refine va_slen hx hb hX hbl hbA hS dL_law_20 ?_
        refine lv_topi (fun x_252 e_252 => ?_)
        refine lv_iconst (v := 5) hx hb dL_law_21 (by decide) ?_
        refine lv_isub hx hb dL_law_22 ?_
        refine lv_topi (fun x_253 e_253 => ?_)
        refine lv_icmp_gt (tgt := 914) hx hb dL_law_23 (by decide) (fun c_254 => ?_) (fun c_254 => ?_)
        · refine lv_iconst (v := 1) hx hb dL_law_914 (by decide) ?_
          refine va_forget (fun q hq => by have := hS.2.2 q hq; rw [hAe] at this; exact this) ?_
          refine W.widen (k := 600000) (n := 7302250) (Nat.le_of_ble_eq_true rfl) (Nat.le_of_ble_eq_true rfl) ?_
          exact lw_ret hx hb hr hlocks dL_law_915
        · exact absurd (by rw [e_253, e_252]; decide) c_254
      · exact absurd (by rw [hw_245, hw_249]) c_250
    by_cases c_255 : x_62 = 12
    · refine lv_tableIn (tgt := 480) hx hb dL_law_32 (by rw [c_255]; decide) (by rw [c_255]; decide) (by rw [c_255]; rfl) (by decide) ?_
      have hP : va_P (dC, dI) classes [(q_1, .inr (11, [.ref q_5, .ref q_6, .ref q_7, .ref q_8, .ref q_9, .ref q_10, .ref q_11, .ref q_12, .ref q_13, .ref q_14, .ref q_15, .int 0, .int 0, .int 1])), (q_7, .inr (4, [.ref q_16, .ref q_17, .ref q_18, .ref q_19, .ref q_20, .int 0, .int 0, .int 0])), (q_14, .inl (aC 0, 7, .inl (fun _ => 0))), (q_31, .inr (12, [.ref q_34, .ref q_35, .ref q_36, .ref q_37, .ref q_38, .ref q_39, .int 0, .int 0, .int 0, .ref q_40, .ref q_41, .ref q_42, .ref q_43, .int 0, .int 0, .int 0, .ref q_44, .int 0, .int 0, .int 0, .ref q_45, .ref q_46, .ref q_47, .ref q_48, .ref q_49, .ref q_50, .ref q_51, .ref q_52, .int 0, .ref q_53, .ref q_54, .ref q_55, .ref q_56])), (q_34, .inl (aC 0, 7, .inl (fun _ => 0)))] H := hP.sub [0, 1, 21, 22, 23] rfl
      have hD : va_D A [(q_1, .inr (11, [.ref q_5, .ref q_6, .ref q_7, .ref q_8, .ref q_9, .ref q_10, .ref q_11, .ref q_12, .ref q_13, .ref q_14, .ref q_15, .int 0, .int 0, .int 1])), (q_7, .inr (4, [.ref q_16, .ref q_17, .ref q_18, .ref q_19, .ref q_20, .int 0, .int 0, .int 0])), (q_14, .inl (aC 0, 7, .inl (fun _ => 0))), (q_31, .inr (12, [.ref q_34, .ref q_35, .ref q_36, .ref q_37, .ref q_38, .ref q_39, .int 0, .int 0, .int 0, .ref q_40, .ref q_41, .ref q_42, .ref q_43, .int 0, .int 0, .int 0, .ref q_44, .int 0, .int 0, .int 0, .ref q_45, .ref q_46, .ref q_47, .ref q_48, .ref q_49, .ref q_50, .ref q_51, .ref q_52, .int 0, .ref q_53, .ref q_54, .ref q_55, .ref q_56])), (q_34, .inl (aC 0, 7, .inl (fun _ => 0)))] := hD.sub [0, 1, 21, 22, 23] (by decide) rfl
      refine lv_aload_n hx hb dL_law_480 rfl (lv_at hl 2 rfl) ?_
      refine lv_aload_n hx hb dL_law_481 rfl (lv_at hl 3 rfl) ?_
      refine lv_iload_n hx hb dL_law_482 rfl (lv_at hl 0 rfl) ?_
      refine lv_iconst (v := 1) hx hb dL_law_483 (by decide) ?_
      refine lv_iadd hx hb dL_law_484 ?_
      refine lv_topi (fun x_256 e_256 => ?_)
      have h9 : x_256 = 1 := by rw [e_256]; decide
      subst h9
      have h_257 : vp_in 1 5 := by first | assumption | (unfold vp_in; decide) | exact vp_in_nI (by omega) (by omega) | (subst_vars; first | (unfold vp_in; decide) | exact vp_in_nI (by omega) (by omega))
      refine va_sld hx hb hX hbl hbA hS h_257 dL_law_485 ?_
      refine lv_topi (fun x_258 e_258 => ?_)
      have h9 : x_258 = (xs 1) := by rw [e_258]; rfl
      subst h9
      have hPc := hP.sub (ws' := [(q_1, .inr (11, [.ref q_5, .ref q_6, .ref q_7, .ref q_8, .ref q_9, .ref q_10, .ref q_11, .ref q_12, .ref q_13, .ref q_14, .ref q_15, .int 0, .int 0, .int 1])), (q_7, .inr (4, [.ref q_16, .ref q_17, .ref q_18, .ref q_19, .ref q_20, .int 0, .int 0, .int 0])), (q_14, .inl (aC 0, 7, .inl (fun _ => 0)))]) [0, 1, 2] rfl
      have hDc := hD.sub (ws' := [(q_1, .inr (11, [.ref q_5, .ref q_6, .ref q_7, .ref q_8, .ref q_9, .ref q_10, .ref q_11, .ref q_12, .ref q_13, .ref q_14, .ref q_15, .int 0, .int 0, .int 1])), (q_7, .inr (4, [.ref q_16, .ref q_17, .ref q_18, .ref q_19, .ref q_20, .int 0, .int 0, .int 0])), (q_14, .inl (aC 0, 7, .inl (fun _ => 0)))]) [0, 1, 2] (by decide) rfl
      have hFc := va_free (wc := [(q_1, .inr (11, [.ref q_5, .ref q_6, .ref q_7, .ref q_8, .ref q_9, .ref q_10, .ref q_11, .ref q_12, .ref q_13, .ref q_14, .ref q_15, .int 0, .int 0, .int 1])), (q_7, .inr (4, [.ref q_16, .ref q_17, .ref q_18, .ref q_19, .ref q_20, .int 0, .int 0, .int 0])), (q_14, .inl (aC 0, 7, .inl (fun _ => 0)))]) hD hS hA [0, 1, 2] rfl
      refine va_calli (va_runV (As := [.int (xs 1)]) (rest := []) ⟨hx, hb, hml, hown, hts⟩ (c_X11_judge_r l dC dI aC H.size q_1 q_5 q_6 q_7 q_8 q_9 q_10 q_11 q_12 q_13 q_14 q_15 0 0 1 q_16 q_17 q_18 q_19 q_20 0 0 0 (fun _ => 0) (xs 1) (Or.inl rfl)) ⟨(callB_of 1 hts (gG kw_519) rfl rfl rfl (hts _ (gw kw_1 rfl)) (hts _ (gw kw_516 rfl)) (by decide +kernel) ⟨Nat.le_of_ble_eq_true rfl, Nat.le_of_ble_eq_true rfl⟩), (hts _ (gw kw_517 rfl)), (hts _ (gw kw_518 rfl))⟩ ⟨fun a U g mk q => by obtain ⟨q0, q1, qP, qK, qD, qN⟩ := q; exact ⟨q0, q1, qP, va_K.moved (u := U) (U := U.calling g mk a) (Vm.Alike.refl U.vm) qK, qD, NX.same (u := U) (U := U.calling g mk a) rfl qN⟩, va_recv hK hPc (ci := 11) (q0 := 0) rfl rfl, fun U hU hW => ⟨rfl, by rw [hU], by rw [hU]; exact hPc, va_K.moved hW.alike hK, hDc.weaken (fun _ _ _ _ => trivial), NX.warm hW hN⟩⟩ rfl rfl hl.1 rfl (lv_room (Nat.le_of_ble_eq_true rfl)) dL_law_486 ⟨Nat.le_of_ble_eq_true rfl, Nat.le_of_ble_eq_true rfl⟩) hS (fun q _ h => hFc q h) hFc (fun x_259 u t H1 locs ht hvm hw_259 hB hz1 hk1 hS => ?_)
      obtain ⟨hP1, hK1, hD1⟩ := hB
      rw [ht] at hP1
      clear hK1
      try dsimp only at hw_259
      obtain ⟨hP, hD⟩ := va_join (wr := [(q_31, .inr (12, [.ref q_34, .ref q_35, .ref q_36, .ref q_37, .ref q_38, .ref q_39, .int 0, .int 0, .int 0, .ref q_40, .ref q_41, .ref q_42, .ref q_43, .int 0, .int 0, .int 0, .ref q_44, .int 0, .int 0, .int 0, .ref q_45, .ref q_46, .ref q_47, .ref q_48, .ref q_49, .ref q_50, .ref q_51, .ref q_52, .int 0, .ref q_53, .ref q_54, .ref q_55, .ref q_56])), (q_34, .inl (aC 0, 7, .inl (fun _ => 0)))]) (w1 := []) hP hD [0, 1, 2] [3, 4] rfl rfl (by decide) (by decide) hk1 hFc hP1 hD1
      generalize H1 = H at hP hS ⊢
      have hP : va_P (dC, dI) classes [(q_31, .inr (12, [.ref q_34, .ref q_35, .ref q_36, .ref q_37, .ref q_38, .ref q_39, .int 0, .int 0, .int 0, .ref q_40, .ref q_41, .ref q_42, .ref q_43, .int 0, .int 0, .int 0, .ref q_44, .int 0, .int 0, .int 0, .ref q_45, .ref q_46, .ref q_47, .ref q_48, .ref q_49, .ref q_50, .ref q_51, .ref q_52, .int 0, .ref q_53, .ref q_54, .ref q_55, .ref q_56])), (q_34, .inl (aC 0, 7, .inl (fun _ => 0)))] H := hP
      have hD : va_D A [(q_31, .inr (12, [.ref q_34, .ref q_35, .ref q_36, .ref q_37, .ref q_38, .ref q_39, .int 0, .int 0, .int 0, .ref q_40, .ref q_41, .ref q_42, .ref q_43, .int 0, .int 0, .int 0, .ref q_44, .int 0, .int 0, .int 0, .ref q_45, .ref q_46, .ref q_47, .ref q_48, .ref q_49, .ref q_50, .ref q_51, .ref q_52, .int 0, .ref q_53, .ref q_54, .ref q_55, .ref q_56])), (q_34, .inl (aC 0, 7, .inl (fun _ => 0)))] := hD
      clear hPc hDc hFc hz1 hk1 hP1 hD1 ht hvm
      refine lv_aload_n hx hb dL_law_489 rfl (lv_at hl 1 rfl) ?_
      refine lv_aload_n hx hb dL_law_490 rfl (lv_at hl 3 rfl) ?_
      refine lv_iload_n hx hb dL_law_491 rfl (lv_at hl 0 rfl) ?_
      refine lv_iconst (v := 1) hx hb dL_law_492 (by decide) ?_
      refine lv_iadd hx hb dL_law_493 ?_
      refine lv_topi (fun x_260 e_260 => ?_)
      have h9 : x_260 = 1 := by rw [e_260]; decide
      subst h9
      have h_261 : vp_in 1 5 := by first | assumption | (unfold vp_in; decide) | exact vp_in_nI (by omega) (by omega) | (subst_vars; first | (unfold vp_in; decide) | exact vp_in_nI (by omega) (by omega))
      refine va_sld hx hb hX hbl hbA hS h_261 dL_law_494 ?_
      refine lv_topi (fun x_262 e_262 => ?_)
      have h9 : x_262 = (xs 1) := by rw [e_262]; rfl
      subst h9
      have hPc := hP.sub (ws' := [(q_31, .inr (12, [.ref q_34, .ref q_35, .ref q_36, .ref q_37, .ref q_38, .ref q_39, .int 0, .int 0, .int 0, .ref q_40, .ref q_41, .ref q_42, .ref q_43, .int 0, .int 0, .int 0, .ref q_44, .int 0, .int 0, .int 0, .ref q_45, .ref q_46, .ref q_47, .ref q_48, .ref q_49, .ref q_50, .ref q_51, .ref q_52, .int 0, .ref q_53, .ref q_54, .ref q_55, .ref q_56])), (q_34, .inl (aC 0, 7, .inl (fun _ => 0)))]) [0, 1] rfl
      have hDc := hD.sub (ws' := [(q_31, .inr (12, [.ref q_34, .ref q_35, .ref q_36, .ref q_37, .ref q_38, .ref q_39, .int 0, .int 0, .int 0, .ref q_40, .ref q_41, .ref q_42, .ref q_43, .int 0, .int 0, .int 0, .ref q_44, .int 0, .int 0, .int 0, .ref q_45, .ref q_46, .ref q_47, .ref q_48, .ref q_49, .ref q_50, .ref q_51, .ref q_52, .int 0, .ref q_53, .ref q_54, .ref q_55, .ref q_56])), (q_34, .inl (aC 0, 7, .inl (fun _ => 0)))]) [0, 1] (by decide) rfl
      have hFc := va_free (wc := [(q_31, .inr (12, [.ref q_34, .ref q_35, .ref q_36, .ref q_37, .ref q_38, .ref q_39, .int 0, .int 0, .int 0, .ref q_40, .ref q_41, .ref q_42, .ref q_43, .int 0, .int 0, .int 0, .ref q_44, .int 0, .int 0, .int 0, .ref q_45, .ref q_46, .ref q_47, .ref q_48, .ref q_49, .ref q_50, .ref q_51, .ref q_52, .int 0, .ref q_53, .ref q_54, .ref q_55, .ref q_56])), (q_34, .inl (aC 0, 7, .inl (fun _ => 0)))]) hD hS hA [0, 1] rfl
      refine va_calli (va_runV (As := [.int (xs 1)]) (rest := [.int x_259]) ⟨hx, hb, hml, hown, hts⟩ (c_X12_judge_r l dC dI aC H.size q_31 q_34 q_35 q_36 q_37 q_38 q_39 q_40 q_41 q_42 q_43 q_44 q_45 q_46 q_47 q_48 q_49 q_50 q_51 q_52 q_53 q_54 q_55 q_56 0 0 0 0 0 0 0 0 0 0 (fun _ => 0) (xs 1) (Or.inl rfl)) ⟨(callB_of 1 hts (gG kw_990) rfl rfl rfl (hts _ (gw kw_13 rfl)) (hts _ (gw kw_987 rfl)) (by decide +kernel) ⟨Nat.le_of_ble_eq_true rfl, Nat.le_of_ble_eq_true rfl⟩), (hts _ (gw kw_988 rfl)), (hts _ (gw kw_989 rfl))⟩ ⟨fun a U g mk q => by obtain ⟨q0, q1, qP, qK, qD, qN⟩ := q; exact ⟨q0, q1, qP, va_K.moved (u := U) (U := U.calling g mk a) (Vm.Alike.refl U.vm) qK, qD, NX.same (u := U) (U := U.calling g mk a) rfl qN⟩, va_recv hK hPc (ci := 12) (q0 := 0) rfl rfl, fun U hU hW => ⟨rfl, by rw [hU], by rw [hU]; exact hPc, va_K.moved hW.alike hK, hDc.weaken (fun _ _ _ _ => trivial), NX.warm hW hN⟩⟩ rfl rfl hl.1 rfl (lv_room (Nat.le_of_ble_eq_true rfl)) dL_law_495 ⟨Nat.le_of_ble_eq_true rfl, Nat.le_of_ble_eq_true rfl⟩) hS (fun q _ h => hFc q h) hFc (fun x_263 u t H1 locs ht hvm hw_263 hB hz1 hk1 hS => ?_)
      obtain ⟨hP1, hK1, hD1⟩ := hB
      rw [ht] at hP1
      clear hK1
      try dsimp only at hw_263
      obtain ⟨hP, hD⟩ := va_join (wr := []) (w1 := []) hP hD [0, 1] [] rfl rfl (by decide) (by decide) hk1 hFc hP1 hD1
      generalize H1 = H at hP hS ⊢
      have hP : va_P (dC, dI) classes [] H := hP
      have hD : va_D A [] := hD
      clear hPc hDc hFc hz1 hk1 hP1 hD1 ht hvm
      refine lv_icmp_eq (tgt := 908) hx hb dL_law_498 (by decide) (fun c_264 => ?_) (fun c_264 => ?_)
      · obtain ⟨x_265, e_265⟩ : ∃ y : Int32, y = 0 + 5 := ⟨_, rfl⟩
        refine lv_iinc (v := x_265) (lv' := [(3, .int x_265), (2, .ref q_31), (1, .ref q_1), (0, .ref b)]) hx hb dL_law_908 hl (k := 0) rfl (by rw [e_265]; rfl) (by decide) rfl (fun ls hl => ?_)
        have h9 : x_265 = 5 := by rw [e_265]; decide
        subst h9
        refine lv_goto (tgt := 18) hx hb dL_law_911 (by decide) ?_
        refine lv_iload_n hx hb dL_law_18 rfl (lv_at hl 0 rfl) ?_
        refine lv_aload_n hx hb dL_law_19 rfl (lv_at hl 3 rfl) ?_
        refine va_slen hx hb hX hbl hbA hS dL_law_20 ?_
        refine lv_topi (fun x_266 e_266 => ?_)
        refine lv_iconst (v := 5) hx hb dL_law_21 (by decide) ?_
        refine lv_isub hx hb dL_law_22 ?_
        refine lv_topi (fun x_267 e_267 => ?_)
        refine lv_icmp_gt (tgt := 914) hx hb dL_law_23 (by decide) (fun c_268 => ?_) (fun c_268 => ?_)
        · refine lv_iconst (v := 1) hx hb dL_law_914 (by decide) ?_
          refine va_forget (fun q hq => by have := hS.2.2 q hq; rw [hAe] at this; exact this) ?_
          refine W.widen (k := 600000) (n := 7302250) (Nat.le_of_ble_eq_true rfl) (Nat.le_of_ble_eq_true rfl) ?_
          exact lw_ret hx hb hr hlocks dL_law_915
        · exact absurd (by rw [e_267, e_266]; decide) c_268
      · exact absurd (by rw [hw_259, hw_263]) c_264
    by_cases c_269 : x_62 = 13
    · refine lv_tableIn (tgt := 503) hx hb dL_law_32 (by rw [c_269]; decide) (by rw [c_269]; decide) (by rw [c_269]; rfl) (by decide) ?_
      have hP : va_P (dC, dI) classes [(q_1, .inr (11, [.ref q_5, .ref q_6, .ref q_7, .ref q_8, .ref q_9, .ref q_10, .ref q_11, .ref q_12, .ref q_13, .ref q_14, .ref q_15, .int 0, .int 0, .int 1])), (q_7, .inr (4, [.ref q_16, .ref q_17, .ref q_18, .ref q_19, .ref q_20, .int 0, .int 0, .int 0])), (q_14, .inl (aC 0, 7, .inl (fun _ => 0))), (q_31, .inr (12, [.ref q_34, .ref q_35, .ref q_36, .ref q_37, .ref q_38, .ref q_39, .int 0, .int 0, .int 0, .ref q_40, .ref q_41, .ref q_42, .ref q_43, .int 0, .int 0, .int 0, .ref q_44, .int 0, .int 0, .int 0, .ref q_45, .ref q_46, .ref q_47, .ref q_48, .ref q_49, .ref q_50, .ref q_51, .ref q_52, .int 0, .ref q_53, .ref q_54, .ref q_55, .ref q_56])), (q_34, .inl (aC 0, 7, .inl (fun _ => 0)))] H := hP.sub [0, 1, 21, 22, 23] rfl
      have hD : va_D A [(q_1, .inr (11, [.ref q_5, .ref q_6, .ref q_7, .ref q_8, .ref q_9, .ref q_10, .ref q_11, .ref q_12, .ref q_13, .ref q_14, .ref q_15, .int 0, .int 0, .int 1])), (q_7, .inr (4, [.ref q_16, .ref q_17, .ref q_18, .ref q_19, .ref q_20, .int 0, .int 0, .int 0])), (q_14, .inl (aC 0, 7, .inl (fun _ => 0))), (q_31, .inr (12, [.ref q_34, .ref q_35, .ref q_36, .ref q_37, .ref q_38, .ref q_39, .int 0, .int 0, .int 0, .ref q_40, .ref q_41, .ref q_42, .ref q_43, .int 0, .int 0, .int 0, .ref q_44, .int 0, .int 0, .int 0, .ref q_45, .ref q_46, .ref q_47, .ref q_48, .ref q_49, .ref q_50, .ref q_51, .ref q_52, .int 0, .ref q_53, .ref q_54, .ref q_55, .ref q_56])), (q_34, .inl (aC 0, 7, .inl (fun _ => 0)))] := hD.sub [0, 1, 21, 22, 23] (by decide) rfl
      refine lv_aload_n hx hb dL_law_503 rfl (lv_at hl 2 rfl) ?_
      refine lv_aload_n hx hb dL_law_504 rfl (lv_at hl 3 rfl) ?_
      refine lv_iload_n hx hb dL_law_505 rfl (lv_at hl 0 rfl) ?_
      refine lv_iconst (v := 1) hx hb dL_law_506 (by decide) ?_
      refine lv_iadd hx hb dL_law_507 ?_
      refine lv_topi (fun x_270 e_270 => ?_)
      have h9 : x_270 = 1 := by rw [e_270]; decide
      subst h9
      have h_271 : vp_in 1 5 := by first | assumption | (unfold vp_in; decide) | exact vp_in_nI (by omega) (by omega) | (subst_vars; first | (unfold vp_in; decide) | exact vp_in_nI (by omega) (by omega))
      refine va_sld hx hb hX hbl hbA hS h_271 dL_law_508 ?_
      refine lv_topi (fun x_272 e_272 => ?_)
      have h9 : x_272 = (xs 1) := by rw [e_272]; rfl
      subst h9
      have hPc := hP.sub (ws' := [(q_1, .inr (11, [.ref q_5, .ref q_6, .ref q_7, .ref q_8, .ref q_9, .ref q_10, .ref q_11, .ref q_12, .ref q_13, .ref q_14, .ref q_15, .int 0, .int 0, .int 1])), (q_7, .inr (4, [.ref q_16, .ref q_17, .ref q_18, .ref q_19, .ref q_20, .int 0, .int 0, .int 0])), (q_14, .inl (aC 0, 7, .inl (fun _ => 0)))]) [0, 1, 2] rfl
      have hDc := hD.sub (ws' := [(q_1, .inr (11, [.ref q_5, .ref q_6, .ref q_7, .ref q_8, .ref q_9, .ref q_10, .ref q_11, .ref q_12, .ref q_13, .ref q_14, .ref q_15, .int 0, .int 0, .int 1])), (q_7, .inr (4, [.ref q_16, .ref q_17, .ref q_18, .ref q_19, .ref q_20, .int 0, .int 0, .int 0])), (q_14, .inl (aC 0, 7, .inl (fun _ => 0)))]) [0, 1, 2] (by decide) rfl
      have hFc := va_free (wc := [(q_1, .inr (11, [.ref q_5, .ref q_6, .ref q_7, .ref q_8, .ref q_9, .ref q_10, .ref q_11, .ref q_12, .ref q_13, .ref q_14, .ref q_15, .int 0, .int 0, .int 1])), (q_7, .inr (4, [.ref q_16, .ref q_17, .ref q_18, .ref q_19, .ref q_20, .int 0, .int 0, .int 0])), (q_14, .inl (aC 0, 7, .inl (fun _ => 0)))]) hD hS hA [0, 1, 2] rfl
      refine va_calli (va_runV (As := [.int (xs 1)]) (rest := []) ⟨hx, hb, hml, hown, hts⟩ (c_X11_goes_r l dC dI aC H.size q_1 q_5 q_6 q_7 q_8 q_9 q_10 q_11 q_12 q_13 q_14 q_15 0 0 1 q_16 q_17 q_18 q_19 q_20 0 0 0 (fun _ => 0) (xs 1) (Or.inl rfl)) ⟨(callB_of 1 hts (gG kw_535) rfl rfl rfl (hts _ (gw kw_1 rfl)) (hts _ (gw kw_532 rfl)) (by decide +kernel) ⟨Nat.le_of_ble_eq_true rfl, Nat.le_of_ble_eq_true rfl⟩), (hts _ (gw kw_533 rfl)), (hts _ (gw kw_534 rfl))⟩ ⟨fun a U g mk q => by obtain ⟨q0, q1, qP, qK, qD, qN⟩ := q; exact ⟨q0, q1, qP, va_K.moved (u := U) (U := U.calling g mk a) (Vm.Alike.refl U.vm) qK, qD, NX.same (u := U) (U := U.calling g mk a) rfl qN⟩, va_recv hK hPc (ci := 11) (q0 := 0) rfl rfl, fun U hU hW => ⟨rfl, by rw [hU], by rw [hU]; exact hPc, va_K.moved hW.alike hK, hDc.weaken (fun _ _ _ _ => trivial), NX.warm hW hN⟩⟩ rfl rfl hl.1 rfl (lv_room (Nat.le_of_ble_eq_true rfl)) dL_law_509 ⟨Nat.le_of_ble_eq_true rfl, Nat.le_of_ble_eq_true rfl⟩) hS (fun q _ h => hFc q h) hFc (fun x_273 u t H1 locs ht hvm hw_273 hB hz1 hk1 hS => ?_)
      obtain ⟨hP1, hK1, hD1⟩ := hB
      rw [ht] at hP1
      clear hK1
      try dsimp only at hw_273
      obtain ⟨hP, hD⟩ := va_join (wr := [(q_31, .inr (12, [.ref q_34, .ref q_35, .ref q_36, .ref q_37, .ref q_38, .ref q_39, .int 0, .int 0, .int 0, .ref q_40, .ref q_41, .ref q_42, .ref q_43, .int 0, .int 0, .int 0, .ref q_44, .int 0, .int 0, .int 0, .ref q_45, .ref q_46, .ref q_47, .ref q_48, .ref q_49, .ref q_50, .ref q_51, .ref q_52, .int 0, .ref q_53, .ref q_54, .ref q_55, .ref q_56])), (q_34, .inl (aC 0, 7, .inl (fun _ => 0)))]) (w1 := []) hP hD [0, 1, 2] [3, 4] rfl rfl (by decide) (by decide) hk1 hFc hP1 hD1
      generalize H1 = H at hP hS ⊢
      have hP : va_P (dC, dI) classes [(q_31, .inr (12, [.ref q_34, .ref q_35, .ref q_36, .ref q_37, .ref q_38, .ref q_39, .int 0, .int 0, .int 0, .ref q_40, .ref q_41, .ref q_42, .ref q_43, .int 0, .int 0, .int 0, .ref q_44, .int 0, .int 0, .int 0, .ref q_45, .ref q_46, .ref q_47, .ref q_48, .ref q_49, .ref q_50, .ref q_51, .ref q_52, .int 0, .ref q_53, .ref q_54, .ref q_55, .ref q_56])), (q_34, .inl (aC 0, 7, .inl (fun _ => 0)))] H := hP
      have hD : va_D A [(q_31, .inr (12, [.ref q_34, .ref q_35, .ref q_36, .ref q_37, .ref q_38, .ref q_39, .int 0, .int 0, .int 0, .ref q_40, .ref q_41, .ref q_42, .ref q_43, .int 0, .int 0, .int 0, .ref q_44, .int 0, .int 0, .int 0, .ref q_45, .ref q_46, .ref q_47, .ref q_48, .ref q_49, .ref q_50, .ref q_51, .ref q_52, .int 0, .ref q_53, .ref q_54, .ref q_55, .ref q_56])), (q_34, .inl (aC 0, 7, .inl (fun _ => 0)))] := hD
      clear hPc hDc hFc hz1 hk1 hP1 hD1 ht hvm
      refine lv_aload_n hx hb dL_law_512 rfl (lv_at hl 1 rfl) ?_
      refine lv_aload_n hx hb dL_law_513 rfl (lv_at hl 3 rfl) ?_
      refine lv_iload_n hx hb dL_law_514 rfl (lv_at hl 0 rfl) ?_
      refine lv_iconst (v := 1) hx hb dL_law_515 (by decide) ?_
      refine lv_iadd hx hb dL_law_516 ?_
      refine lv_topi (fun x_274 e_274 => ?_)
      have h9 : x_274 = 1 := by rw [e_274]; decide
      subst h9
      have h_275 : vp_in 1 5 := by first | assumption | (unfold vp_in; decide) | exact vp_in_nI (by omega) (by omega) | (subst_vars; first | (unfold vp_in; decide) | exact vp_in_nI (by omega) (by omega))
      refine va_sld hx hb hX hbl hbA hS h_275 dL_law_517 ?_
      refine lv_topi (fun x_276 e_276 => ?_)
      have h9 : x_276 = (xs 1) := by rw [e_276]; rfl
      subst h9
      have hPc := hP.sub (ws' := [(q_31, .inr (12, [.ref q_34, .ref q_35, .ref q_36, .ref q_37, .ref q_38, .ref q_39, .int 0, .int 0, .int 0, .ref q_40, .ref q_41, .ref q_42, .ref q_43, .int 0, .int 0, .int 0, .ref q_44, .int 0, .int 0, .int 0, .ref q_45, .ref q_46, .ref q_47, .ref q_48, .ref q_49, .ref q_50, .ref q_51, .ref q_52, .int 0, .ref q_53, .ref q_54, .ref q_55, .ref q_56])), (q_34, .inl (aC 0, 7, .inl (fun _ => 0)))]) [0, 1] rfl
      have hDc := hD.sub (ws' := [(q_31, .inr (12, [.ref q_34, .ref q_35, .ref q_36, .ref q_37, .ref q_38, .ref q_39, .int 0, .int 0, .int 0, .ref q_40, .ref q_41, .ref q_42, .ref q_43, .int 0, .int 0, .int 0, .ref q_44, .int 0, .int 0, .int 0, .ref q_45, .ref q_46, .ref q_47, .ref q_48, .ref q_49, .ref q_50, .ref q_51, .ref q_52, .int 0, .ref q_53, .ref q_54, .ref q_55, .ref q_56])), (q_34, .inl (aC 0, 7, .inl (fun _ => 0)))]) [0, 1] (by decide) rfl
      have hFc := va_free (wc := [(q_31, .inr (12, [.ref q_34, .ref q_35, .ref q_36, .ref q_37, .ref q_38, .ref q_39, .int 0, .int 0, .int 0, .ref q_40, .ref q_41, .ref q_42, .ref q_43, .int 0, .int 0, .int 0, .ref q_44, .int 0, .int 0, .int 0, .ref q_45, .ref q_46, .ref q_47, .ref q_48, .ref q_49, .ref q_50, .ref q_51, .ref q_52, .int 0, .ref q_53, .ref q_54, .ref q_55, .ref q_56])), (q_34, .inl (aC 0, 7, .inl (fun _ => 0)))]) hD hS hA [0, 1] rfl
      refine va_calli (va_runV (As := [.int (xs 1)]) (rest := [.int x_273]) ⟨hx, hb, hml, hown, hts⟩ (c_X12_goes_r l dC dI aC H.size q_31 q_34 q_35 q_36 q_37 q_38 q_39 q_40 q_41 q_42 q_43 q_44 q_45 q_46 q_47 q_48 q_49 q_50 q_51 q_52 q_53 q_54 q_55 q_56 0 0 0 0 0 0 0 0 0 0 (fun _ => 0) (xs 1) (Or.inl rfl)) ⟨(callB_of 1 hts (gG kw_1002) rfl rfl rfl (hts _ (gw kw_13 rfl)) (hts _ (gw kw_999 rfl)) (by decide +kernel) ⟨Nat.le_of_ble_eq_true rfl, Nat.le_of_ble_eq_true rfl⟩), (hts _ (gw kw_1000 rfl)), (hts _ (gw kw_1001 rfl))⟩ ⟨fun a U g mk q => by obtain ⟨q0, q1, qP, qK, qD, qN⟩ := q; exact ⟨q0, q1, qP, va_K.moved (u := U) (U := U.calling g mk a) (Vm.Alike.refl U.vm) qK, qD, NX.same (u := U) (U := U.calling g mk a) rfl qN⟩, va_recv hK hPc (ci := 12) (q0 := 0) rfl rfl, fun U hU hW => ⟨rfl, by rw [hU], by rw [hU]; exact hPc, va_K.moved hW.alike hK, hDc.weaken (fun _ _ _ _ => trivial), NX.warm hW hN⟩⟩ rfl rfl hl.1 rfl (lv_room (Nat.le_of_ble_eq_true rfl)) dL_law_518 ⟨Nat.le_of_ble_eq_true rfl, Nat.le_of_ble_eq_true rfl⟩) hS (fun q _ h => hFc q h) hFc (fun x_277 u t H1 locs ht hvm hw_277 hB hz1 hk1 hS => ?_)
      obtain ⟨hP1, hK1, hD1⟩ := hB
      rw [ht] at hP1
      clear hK1
      try dsimp only at hw_277
      obtain ⟨hP, hD⟩ := va_join (wr := []) (w1 := []) hP hD [0, 1] [] rfl rfl (by decide) (by decide) hk1 hFc hP1 hD1
      generalize H1 = H at hP hS ⊢
      have hP : va_P (dC, dI) classes [] H := hP
      have hD : va_D A [] := hD
      clear hPc hDc hFc hz1 hk1 hP1 hD1 ht hvm
      refine lv_icmp_eq (tgt := 908) hx hb dL_law_521 (by decide) (fun c_278 => ?_) (fun c_278 => ?_)
      · obtain ⟨x_279, e_279⟩ : ∃ y : Int32, y = 0 + 5 := ⟨_, rfl⟩
        refine lv_iinc (v := x_279) (lv' := [(3, .int x_279), (2, .ref q_31), (1, .ref q_1), (0, .ref b)]) hx hb dL_law_908 hl (k := 0) rfl (by rw [e_279]; rfl) (by decide) rfl (fun ls hl => ?_)
        have h9 : x_279 = 5 := by rw [e_279]; decide
        subst h9
        refine lv_goto (tgt := 18) hx hb dL_law_911 (by decide) ?_
        refine lv_iload_n hx hb dL_law_18 rfl (lv_at hl 0 rfl) ?_
        refine lv_aload_n hx hb dL_law_19 rfl (lv_at hl 3 rfl) ?_
        refine va_slen hx hb hX hbl hbA hS dL_law_20 ?_
        refine lv_topi (fun x_280 e_280 => ?_)
        refine lv_iconst (v := 5) hx hb dL_law_21 (by decide) ?_
        refine lv_isub hx hb dL_law_22 ?_
        refine lv_topi (fun x_281 e_281 => ?_)
        refine lv_icmp_gt (tgt := 914) hx hb dL_law_23 (by decide) (fun c_282 => ?_) (fun c_282 => ?_)
        · refine lv_iconst (v := 1) hx hb dL_law_914 (by decide) ?_
          refine va_forget (fun q hq => by have := hS.2.2 q hq; rw [hAe] at this; exact this) ?_
          refine W.widen (k := 600000) (n := 7302250) (Nat.le_of_ble_eq_true rfl) (Nat.le_of_ble_eq_true rfl) ?_
          exact lw_ret hx hb hr hlocks dL_law_915
        · exact absurd (by rw [e_281, e_280]; decide) c_282
      · exact absurd (by rw [hw_273, hw_277]) c_278
    by_cases c_283 : x_62 = 14
    · refine lv_tableIn (tgt := 526) hx hb dL_law_32 (by rw [c_283]; decide) (by rw [c_283]; decide) (by rw [c_283]; rfl) (by decide) ?_
      have hP : va_P (dC, dI) classes [(q_1, .inr (11, [.ref q_5, .ref q_6, .ref q_7, .ref q_8, .ref q_9, .ref q_10, .ref q_11, .ref q_12, .ref q_13, .ref q_14, .ref q_15, .int 0, .int 0, .int 1])), (q_7, .inr (4, [.ref q_16, .ref q_17, .ref q_18, .ref q_19, .ref q_20, .int 0, .int 0, .int 0])), (q_14, .inl (aC 0, 7, .inl (fun _ => 0))), (q_31, .inr (12, [.ref q_34, .ref q_35, .ref q_36, .ref q_37, .ref q_38, .ref q_39, .int 0, .int 0, .int 0, .ref q_40, .ref q_41, .ref q_42, .ref q_43, .int 0, .int 0, .int 0, .ref q_44, .int 0, .int 0, .int 0, .ref q_45, .ref q_46, .ref q_47, .ref q_48, .ref q_49, .ref q_50, .ref q_51, .ref q_52, .int 0, .ref q_53, .ref q_54, .ref q_55, .ref q_56])), (q_34, .inl (aC 0, 7, .inl (fun _ => 0)))] H := hP.sub [0, 1, 21, 22, 23] rfl
      have hD : va_D A [(q_1, .inr (11, [.ref q_5, .ref q_6, .ref q_7, .ref q_8, .ref q_9, .ref q_10, .ref q_11, .ref q_12, .ref q_13, .ref q_14, .ref q_15, .int 0, .int 0, .int 1])), (q_7, .inr (4, [.ref q_16, .ref q_17, .ref q_18, .ref q_19, .ref q_20, .int 0, .int 0, .int 0])), (q_14, .inl (aC 0, 7, .inl (fun _ => 0))), (q_31, .inr (12, [.ref q_34, .ref q_35, .ref q_36, .ref q_37, .ref q_38, .ref q_39, .int 0, .int 0, .int 0, .ref q_40, .ref q_41, .ref q_42, .ref q_43, .int 0, .int 0, .int 0, .ref q_44, .int 0, .int 0, .int 0, .ref q_45, .ref q_46, .ref q_47, .ref q_48, .ref q_49, .ref q_50, .ref q_51, .ref q_52, .int 0, .ref q_53, .ref q_54, .ref q_55, .ref q_56])), (q_34, .inl (aC 0, 7, .inl (fun _ => 0)))] := hD.sub [0, 1, 21, 22, 23] (by decide) rfl
      refine lv_aload_n hx hb dL_law_526 rfl (lv_at hl 2 rfl) ?_
      have hPc := hP.sub (ws' := [(q_1, .inr (11, [.ref q_5, .ref q_6, .ref q_7, .ref q_8, .ref q_9, .ref q_10, .ref q_11, .ref q_12, .ref q_13, .ref q_14, .ref q_15, .int 0, .int 0, .int 1])), (q_7, .inr (4, [.ref q_16, .ref q_17, .ref q_18, .ref q_19, .ref q_20, .int 0, .int 0, .int 0])), (q_14, .inl (aC 0, 7, .inl (fun _ => 0)))]) [0, 1, 2] rfl
      have hDc := hD.sub (ws' := [(q_1, .inr (11, [.ref q_5, .ref q_6, .ref q_7, .ref q_8, .ref q_9, .ref q_10, .ref q_11, .ref q_12, .ref q_13, .ref q_14, .ref q_15, .int 0, .int 0, .int 1])), (q_7, .inr (4, [.ref q_16, .ref q_17, .ref q_18, .ref q_19, .ref q_20, .int 0, .int 0, .int 0])), (q_14, .inl (aC 0, 7, .inl (fun _ => 0)))]) [0, 1, 2] (by decide) rfl
      have hFc := va_free (wc := [(q_1, .inr (11, [.ref q_5, .ref q_6, .ref q_7, .ref q_8, .ref q_9, .ref q_10, .ref q_11, .ref q_12, .ref q_13, .ref q_14, .ref q_15, .int 0, .int 0, .int 1])), (q_7, .inr (4, [.ref q_16, .ref q_17, .ref q_18, .ref q_19, .ref q_20, .int 0, .int 0, .int 0])), (q_14, .inl (aC 0, 7, .inl (fun _ => 0)))]) hD hS hA [0, 1, 2] rfl
      refine va_calli (va_runV (As := []) (rest := []) ⟨hx, hb, hml, hown, hts⟩ (c_X11_says_r l dC dI aC H.size q_1 q_5 q_6 q_7 q_8 q_9 q_10 q_11 q_12 q_13 q_14 q_15 0 0 1 q_16 q_17 q_18 q_19 q_20 0 0 0 (fun _ => 0) (Or.inl rfl)) ⟨(callB_of 0 hts (gG kw_552) rfl rfl rfl (hts _ (gw kw_1 rfl)) (hts _ (gw kw_549 rfl)) (by decide +kernel) ⟨Nat.le_of_ble_eq_true rfl, Nat.le_of_ble_eq_true rfl⟩), (hts _ (gw kw_550 rfl)), (hts _ (gw kw_551 rfl))⟩ ⟨fun a U g mk q => by obtain ⟨q0, q1, qP, qK, qD, qN⟩ := q; exact ⟨q0, q1, qP, va_K.moved (u := U) (U := U.calling g mk a) (Vm.Alike.refl U.vm) qK, qD, NX.same (u := U) (U := U.calling g mk a) rfl qN⟩, va_recv hK hPc (ci := 11) (q0 := 0) rfl rfl, fun U hU hW => ⟨rfl, by rw [hU], by rw [hU]; exact hPc, va_K.moved hW.alike hK, hDc.weaken (fun _ _ _ _ => trivial), NX.warm hW hN⟩⟩ rfl rfl hl.1 rfl (lv_room (Nat.le_of_ble_eq_true rfl)) dL_law_527 ⟨Nat.le_of_ble_eq_true rfl, Nat.le_of_ble_eq_true rfl⟩) hS (fun q _ h => hFc q h) hFc (fun x_284 u t H1 locs ht hvm hw_284 hB hz1 hk1 hS => ?_)
      obtain ⟨hP1, hK1, hD1⟩ := hB
      rw [ht] at hP1
      clear hK1
      try dsimp only at hw_284
      obtain ⟨hP, hD⟩ := va_join (wr := [(q_31, .inr (12, [.ref q_34, .ref q_35, .ref q_36, .ref q_37, .ref q_38, .ref q_39, .int 0, .int 0, .int 0, .ref q_40, .ref q_41, .ref q_42, .ref q_43, .int 0, .int 0, .int 0, .ref q_44, .int 0, .int 0, .int 0, .ref q_45, .ref q_46, .ref q_47, .ref q_48, .ref q_49, .ref q_50, .ref q_51, .ref q_52, .int 0, .ref q_53, .ref q_54, .ref q_55, .ref q_56])), (q_34, .inl (aC 0, 7, .inl (fun _ => 0)))]) (w1 := []) hP hD [0, 1, 2] [3, 4] rfl rfl (by decide) (by decide) hk1 hFc hP1 hD1
      generalize H1 = H at hP hS ⊢
      have hP : va_P (dC, dI) classes [(q_31, .inr (12, [.ref q_34, .ref q_35, .ref q_36, .ref q_37, .ref q_38, .ref q_39, .int 0, .int 0, .int 0, .ref q_40, .ref q_41, .ref q_42, .ref q_43, .int 0, .int 0, .int 0, .ref q_44, .int 0, .int 0, .int 0, .ref q_45, .ref q_46, .ref q_47, .ref q_48, .ref q_49, .ref q_50, .ref q_51, .ref q_52, .int 0, .ref q_53, .ref q_54, .ref q_55, .ref q_56])), (q_34, .inl (aC 0, 7, .inl (fun _ => 0)))] H := hP
      have hD : va_D A [(q_31, .inr (12, [.ref q_34, .ref q_35, .ref q_36, .ref q_37, .ref q_38, .ref q_39, .int 0, .int 0, .int 0, .ref q_40, .ref q_41, .ref q_42, .ref q_43, .int 0, .int 0, .int 0, .ref q_44, .int 0, .int 0, .int 0, .ref q_45, .ref q_46, .ref q_47, .ref q_48, .ref q_49, .ref q_50, .ref q_51, .ref q_52, .int 0, .ref q_53, .ref q_54, .ref q_55, .ref q_56])), (q_34, .inl (aC 0, 7, .inl (fun _ => 0)))] := hD
      clear hPc hDc hFc hz1 hk1 hP1 hD1 ht hvm
      refine lv_aload_n hx hb dL_law_530 rfl (lv_at hl 1 rfl) ?_
      have hPc := hP.sub (ws' := [(q_31, .inr (12, [.ref q_34, .ref q_35, .ref q_36, .ref q_37, .ref q_38, .ref q_39, .int 0, .int 0, .int 0, .ref q_40, .ref q_41, .ref q_42, .ref q_43, .int 0, .int 0, .int 0, .ref q_44, .int 0, .int 0, .int 0, .ref q_45, .ref q_46, .ref q_47, .ref q_48, .ref q_49, .ref q_50, .ref q_51, .ref q_52, .int 0, .ref q_53, .ref q_54, .ref q_55, .ref q_56])), (q_34, .inl (aC 0, 7, .inl (fun _ => 0)))]) [0, 1] rfl
      have hDc := hD.sub (ws' := [(q_31, .inr (12, [.ref q_34, .ref q_35, .ref q_36, .ref q_37, .ref q_38, .ref q_39, .int 0, .int 0, .int 0, .ref q_40, .ref q_41, .ref q_42, .ref q_43, .int 0, .int 0, .int 0, .ref q_44, .int 0, .int 0, .int 0, .ref q_45, .ref q_46, .ref q_47, .ref q_48, .ref q_49, .ref q_50, .ref q_51, .ref q_52, .int 0, .ref q_53, .ref q_54, .ref q_55, .ref q_56])), (q_34, .inl (aC 0, 7, .inl (fun _ => 0)))]) [0, 1] (by decide) rfl
      have hFc := va_free (wc := [(q_31, .inr (12, [.ref q_34, .ref q_35, .ref q_36, .ref q_37, .ref q_38, .ref q_39, .int 0, .int 0, .int 0, .ref q_40, .ref q_41, .ref q_42, .ref q_43, .int 0, .int 0, .int 0, .ref q_44, .int 0, .int 0, .int 0, .ref q_45, .ref q_46, .ref q_47, .ref q_48, .ref q_49, .ref q_50, .ref q_51, .ref q_52, .int 0, .ref q_53, .ref q_54, .ref q_55, .ref q_56])), (q_34, .inl (aC 0, 7, .inl (fun _ => 0)))]) hD hS hA [0, 1] rfl
      refine va_calli (va_runV (As := []) (rest := [.int x_284]) ⟨hx, hb, hml, hown, hts⟩ (c_X12_says_r l dC dI aC H.size q_31 q_34 q_35 q_36 q_37 q_38 q_39 q_40 q_41 q_42 q_43 q_44 q_45 q_46 q_47 q_48 q_49 q_50 q_51 q_52 q_53 q_54 q_55 q_56 0 0 0 0 0 0 0 0 0 0 (fun _ => 0) (Or.inl rfl)) ⟨(callB_of 0 hts (gG kw_1010) rfl rfl rfl (hts _ (gw kw_13 rfl)) (hts _ (gw kw_1007 rfl)) (by decide +kernel) ⟨Nat.le_of_ble_eq_true rfl, Nat.le_of_ble_eq_true rfl⟩), (hts _ (gw kw_1008 rfl)), (hts _ (gw kw_1009 rfl))⟩ ⟨fun a U g mk q => by obtain ⟨q0, q1, qP, qK, qD, qN⟩ := q; exact ⟨q0, q1, qP, va_K.moved (u := U) (U := U.calling g mk a) (Vm.Alike.refl U.vm) qK, qD, NX.same (u := U) (U := U.calling g mk a) rfl qN⟩, va_recv hK hPc (ci := 12) (q0 := 0) rfl rfl, fun U hU hW => ⟨rfl, by rw [hU], by rw [hU]; exact hPc, va_K.moved hW.alike hK, hDc.weaken (fun _ _ _ _ => trivial), NX.warm hW hN⟩⟩ rfl rfl hl.1 rfl (lv_room (Nat.le_of_ble_eq_true rfl)) dL_law_531 ⟨Nat.le_of_ble_eq_true rfl, Nat.le_of_ble_eq_true rfl⟩) hS (fun q _ h => hFc q h) hFc (fun x_285 u t H1 locs ht hvm hw_285 hB hz1 hk1 hS => ?_)
      obtain ⟨hP1, hK1, hD1⟩ := hB
      rw [ht] at hP1
      clear hK1
      try dsimp only at hw_285
      obtain ⟨hP, hD⟩ := va_join (wr := []) (w1 := []) hP hD [0, 1] [] rfl rfl (by decide) (by decide) hk1 hFc hP1 hD1
      generalize H1 = H at hP hS ⊢
      have hP : va_P (dC, dI) classes [] H := hP
      have hD : va_D A [] := hD
      clear hPc hDc hFc hz1 hk1 hP1 hD1 ht hvm
      refine lv_icmp_eq (tgt := 908) hx hb dL_law_534 (by decide) (fun c_286 => ?_) (fun c_286 => ?_)
      · obtain ⟨x_287, e_287⟩ : ∃ y : Int32, y = 0 + 5 := ⟨_, rfl⟩
        refine lv_iinc (v := x_287) (lv' := [(3, .int x_287), (2, .ref q_31), (1, .ref q_1), (0, .ref b)]) hx hb dL_law_908 hl (k := 0) rfl (by rw [e_287]; rfl) (by decide) rfl (fun ls hl => ?_)
        have h9 : x_287 = 5 := by rw [e_287]; decide
        subst h9
        refine lv_goto (tgt := 18) hx hb dL_law_911 (by decide) ?_
        refine lv_iload_n hx hb dL_law_18 rfl (lv_at hl 0 rfl) ?_
        refine lv_aload_n hx hb dL_law_19 rfl (lv_at hl 3 rfl) ?_
        refine va_slen hx hb hX hbl hbA hS dL_law_20 ?_
        refine lv_topi (fun x_288 e_288 => ?_)
        refine lv_iconst (v := 5) hx hb dL_law_21 (by decide) ?_
        refine lv_isub hx hb dL_law_22 ?_
        refine lv_topi (fun x_289 e_289 => ?_)
        refine lv_icmp_gt (tgt := 914) hx hb dL_law_23 (by decide) (fun c_290 => ?_) (fun c_290 => ?_)
        · refine lv_iconst (v := 1) hx hb dL_law_914 (by decide) ?_
          refine va_forget (fun q hq => by have := hS.2.2 q hq; rw [hAe] at this; exact this) ?_
          refine W.widen (k := 600000) (n := 7302250) (Nat.le_of_ble_eq_true rfl) (Nat.le_of_ble_eq_true rfl) ?_
          exact lw_ret hx hb hr hlocks dL_law_915
        · exact absurd (by rw [e_289, e_288]; decide) c_290
      · exact absurd (by rw [hw_284, hw_285]) c_286
    by_cases c_291 : x_62 = 15
    · refine lv_tableIn (tgt := 539) hx hb dL_law_32 (by rw [c_291]; decide) (by rw [c_291]; decide) (by rw [c_291]; rfl) (by decide) ?_
      have hP : va_P (dC, dI) classes [(q_1, .inr (11, [.ref q_5, .ref q_6, .ref q_7, .ref q_8, .ref q_9, .ref q_10, .ref q_11, .ref q_12, .ref q_13, .ref q_14, .ref q_15, .int 0, .int 0, .int 1])), (q_7, .inr (4, [.ref q_16, .ref q_17, .ref q_18, .ref q_19, .ref q_20, .int 0, .int 0, .int 0])), (q_14, .inl (aC 0, 7, .inl (fun _ => 0))), (q_31, .inr (12, [.ref q_34, .ref q_35, .ref q_36, .ref q_37, .ref q_38, .ref q_39, .int 0, .int 0, .int 0, .ref q_40, .ref q_41, .ref q_42, .ref q_43, .int 0, .int 0, .int 0, .ref q_44, .int 0, .int 0, .int 0, .ref q_45, .ref q_46, .ref q_47, .ref q_48, .ref q_49, .ref q_50, .ref q_51, .ref q_52, .int 0, .ref q_53, .ref q_54, .ref q_55, .ref q_56])), (q_34, .inl (aC 0, 7, .inl (fun _ => 0)))] H := hP.sub [0, 1, 21, 22, 23] rfl
      have hD : va_D A [(q_1, .inr (11, [.ref q_5, .ref q_6, .ref q_7, .ref q_8, .ref q_9, .ref q_10, .ref q_11, .ref q_12, .ref q_13, .ref q_14, .ref q_15, .int 0, .int 0, .int 1])), (q_7, .inr (4, [.ref q_16, .ref q_17, .ref q_18, .ref q_19, .ref q_20, .int 0, .int 0, .int 0])), (q_14, .inl (aC 0, 7, .inl (fun _ => 0))), (q_31, .inr (12, [.ref q_34, .ref q_35, .ref q_36, .ref q_37, .ref q_38, .ref q_39, .int 0, .int 0, .int 0, .ref q_40, .ref q_41, .ref q_42, .ref q_43, .int 0, .int 0, .int 0, .ref q_44, .int 0, .int 0, .int 0, .ref q_45, .ref q_46, .ref q_47, .ref q_48, .ref q_49, .ref q_50, .ref q_51, .ref q_52, .int 0, .ref q_53, .ref q_54, .ref q_55, .ref q_56])), (q_34, .inl (aC 0, 7, .inl (fun _ => 0)))] := hD.sub [0, 1, 21, 22, 23] (by decide) rfl
      refine lv_aload_n hx hb dL_law_539 rfl (lv_at hl 2 rfl) ?_
      refine lv_aload_n hx hb dL_law_540 rfl (lv_at hl 3 rfl) ?_
      refine lv_iload_n hx hb dL_law_541 rfl (lv_at hl 0 rfl) ?_
      refine lv_iconst (v := 1) hx hb dL_law_542 (by decide) ?_
      refine lv_iadd hx hb dL_law_543 ?_
      refine lv_topi (fun x_292 e_292 => ?_)
      have h9 : x_292 = 1 := by rw [e_292]; decide
      subst h9
      have h_293 : vp_in 1 5 := by first | assumption | (unfold vp_in; decide) | exact vp_in_nI (by omega) (by omega) | (subst_vars; first | (unfold vp_in; decide) | exact vp_in_nI (by omega) (by omega))
      refine va_sld hx hb hX hbl hbA hS h_293 dL_law_544 ?_
      refine lv_topi (fun x_294 e_294 => ?_)
      have h9 : x_294 = (xs 1) := by rw [e_294]; rfl
      subst h9
      have hPc := hP.sub (ws' := [(q_1, .inr (11, [.ref q_5, .ref q_6, .ref q_7, .ref q_8, .ref q_9, .ref q_10, .ref q_11, .ref q_12, .ref q_13, .ref q_14, .ref q_15, .int 0, .int 0, .int 1])), (q_7, .inr (4, [.ref q_16, .ref q_17, .ref q_18, .ref q_19, .ref q_20, .int 0, .int 0, .int 0])), (q_14, .inl (aC 0, 7, .inl (fun _ => 0)))]) [0, 1, 2] rfl
      have hDc := hD.sub (ws' := [(q_1, .inr (11, [.ref q_5, .ref q_6, .ref q_7, .ref q_8, .ref q_9, .ref q_10, .ref q_11, .ref q_12, .ref q_13, .ref q_14, .ref q_15, .int 0, .int 0, .int 1])), (q_7, .inr (4, [.ref q_16, .ref q_17, .ref q_18, .ref q_19, .ref q_20, .int 0, .int 0, .int 0])), (q_14, .inl (aC 0, 7, .inl (fun _ => 0)))]) [0, 1, 2] (by decide) rfl
      have hFc := va_free (wc := [(q_1, .inr (11, [.ref q_5, .ref q_6, .ref q_7, .ref q_8, .ref q_9, .ref q_10, .ref q_11, .ref q_12, .ref q_13, .ref q_14, .ref q_15, .int 0, .int 0, .int 1])), (q_7, .inr (4, [.ref q_16, .ref q_17, .ref q_18, .ref q_19, .ref q_20, .int 0, .int 0, .int 0])), (q_14, .inl (aC 0, 7, .inl (fun _ => 0)))]) hD hS hA [0, 1, 2] rfl
      refine va_calli (va_runV (As := [.int (xs 1)]) (rest := []) ⟨hx, hb, hml, hown, hts⟩ (c_X11_got_r l dC dI aC H.size q_1 q_5 q_6 q_7 q_8 q_9 q_10 q_11 q_12 q_13 q_14 q_15 0 0 1 q_16 q_17 q_18 q_19 q_20 0 0 0 (fun _ => 0) (xs 1) (no0 _)) ⟨(callB_of 1 hts (gG kw_556) rfl rfl rfl (hts _ (gw kw_1 rfl)) (hts _ (gw kw_553 rfl)) (by decide +kernel) ⟨Nat.le_of_ble_eq_true rfl, Nat.le_of_ble_eq_true rfl⟩), (hts _ (gw kw_554 rfl)), (hts _ (gw kw_555 rfl))⟩ ⟨fun a U g mk q => by obtain ⟨q0, q1, qP, qK, qD, qN⟩ := q; exact ⟨q0, q1, qP, va_K.moved (u := U) (U := U.calling g mk a) (Vm.Alike.refl U.vm) qK, qD, NX.same (u := U) (U := U.calling g mk a) rfl qN⟩, va_recv hK hPc (ci := 11) (q0 := 0) rfl rfl, fun U hU hW => ⟨rfl, by rw [hU], by rw [hU]; exact hPc, va_K.moved hW.alike hK, hDc.weaken (fun _ _ _ _ => trivial), NX.warm hW hN⟩⟩ rfl rfl hl.1 rfl (lv_room (Nat.le_of_ble_eq_true rfl)) dL_law_545 ⟨Nat.le_of_ble_eq_true rfl, Nat.le_of_ble_eq_true rfl⟩) hS (fun q _ h => hFc q h) hFc (fun x_295 u t H1 locs ht hvm hw_295 hB hz1 hk1 hS => ?_)
      obtain ⟨hP1, hK1, hD1⟩ := hB
      rw [ht] at hP1
      clear hK1
      try dsimp only at hw_295
      obtain ⟨hP, hD⟩ := va_join (wr := [(q_31, .inr (12, [.ref q_34, .ref q_35, .ref q_36, .ref q_37, .ref q_38, .ref q_39, .int 0, .int 0, .int 0, .ref q_40, .ref q_41, .ref q_42, .ref q_43, .int 0, .int 0, .int 0, .ref q_44, .int 0, .int 0, .int 0, .ref q_45, .ref q_46, .ref q_47, .ref q_48, .ref q_49, .ref q_50, .ref q_51, .ref q_52, .int 0, .ref q_53, .ref q_54, .ref q_55, .ref q_56])), (q_34, .inl (aC 0, 7, .inl (fun _ => 0)))]) (w1 := []) hP hD [0, 1, 2] [3, 4] rfl rfl (by decide) (by decide) hk1 hFc hP1 hD1
      generalize H1 = H at hP hS ⊢
      have hP : va_P (dC, dI) classes [(q_31, .inr (12, [.ref q_34, .ref q_35, .ref q_36, .ref q_37, .ref q_38, .ref q_39, .int 0, .int 0, .int 0, .ref q_40, .ref q_41, .ref q_42, .ref q_43, .int 0, .int 0, .int 0, .ref q_44, .int 0, .int 0, .int 0, .ref q_45, .ref q_46, .ref q_47, .ref q_48, .ref q_49, .ref q_50, .ref q_51, .ref q_52, .int 0, .ref q_53, .ref q_54, .ref q_55, .ref q_56])), (q_34, .inl (aC 0, 7, .inl (fun _ => 0)))] H := hP
      have hD : va_D A [(q_31, .inr (12, [.ref q_34, .ref q_35, .ref q_36, .ref q_37, .ref q_38, .ref q_39, .int 0, .int 0, .int 0, .ref q_40, .ref q_41, .ref q_42, .ref q_43, .int 0, .int 0, .int 0, .ref q_44, .int 0, .int 0, .int 0, .ref q_45, .ref q_46, .ref q_47, .ref q_48, .ref q_49, .ref q_50, .ref q_51, .ref q_52, .int 0, .ref q_53, .ref q_54, .ref q_55, .ref q_56])), (q_34, .inl (aC 0, 7, .inl (fun _ => 0)))] := hD
      clear hPc hDc hFc hz1 hk1 hP1 hD1 ht hvm
      refine lv_aload_n hx hb dL_law_548 rfl (lv_at hl 1 rfl) ?_
      refine lv_aload_n hx hb dL_law_549 rfl (lv_at hl 3 rfl) ?_
      refine lv_iload_n hx hb dL_law_550 rfl (lv_at hl 0 rfl) ?_
      refine lv_iconst (v := 1) hx hb dL_law_551 (by decide) ?_
      refine lv_iadd hx hb dL_law_552 ?_
      refine lv_topi (fun x_296 e_296 => ?_)
      have h9 : x_296 = 1 := by rw [e_296]; decide
      subst h9
      have h_297 : vp_in 1 5 := by first | assumption | (unfold vp_in; decide) | exact vp_in_nI (by omega) (by omega) | (subst_vars; first | (unfold vp_in; decide) | exact vp_in_nI (by omega) (by omega))
      refine va_sld hx hb hX hbl hbA hS h_297 dL_law_553 ?_
      refine lv_topi (fun x_298 e_298 => ?_)
      have h9 : x_298 = (xs 1) := by rw [e_298]; rfl
      subst h9
      have hPc := hP.sub (ws' := [(q_31, .inr (12, [.ref q_34, .ref q_35, .ref q_36, .ref q_37, .ref q_38, .ref q_39, .int 0, .int 0, .int 0, .ref q_40, .ref q_41, .ref q_42, .ref q_43, .int 0, .int 0, .int 0, .ref q_44, .int 0, .int 0, .int 0, .ref q_45, .ref q_46, .ref q_47, .ref q_48, .ref q_49, .ref q_50, .ref q_51, .ref q_52, .int 0, .ref q_53, .ref q_54, .ref q_55, .ref q_56])), (q_34, .inl (aC 0, 7, .inl (fun _ => 0)))]) [0, 1] rfl
      have hDc := hD.sub (ws' := [(q_31, .inr (12, [.ref q_34, .ref q_35, .ref q_36, .ref q_37, .ref q_38, .ref q_39, .int 0, .int 0, .int 0, .ref q_40, .ref q_41, .ref q_42, .ref q_43, .int 0, .int 0, .int 0, .ref q_44, .int 0, .int 0, .int 0, .ref q_45, .ref q_46, .ref q_47, .ref q_48, .ref q_49, .ref q_50, .ref q_51, .ref q_52, .int 0, .ref q_53, .ref q_54, .ref q_55, .ref q_56])), (q_34, .inl (aC 0, 7, .inl (fun _ => 0)))]) [0, 1] (by decide) rfl
      have hFc := va_free (wc := [(q_31, .inr (12, [.ref q_34, .ref q_35, .ref q_36, .ref q_37, .ref q_38, .ref q_39, .int 0, .int 0, .int 0, .ref q_40, .ref q_41, .ref q_42, .ref q_43, .int 0, .int 0, .int 0, .ref q_44, .int 0, .int 0, .int 0, .ref q_45, .ref q_46, .ref q_47, .ref q_48, .ref q_49, .ref q_50, .ref q_51, .ref q_52, .int 0, .ref q_53, .ref q_54, .ref q_55, .ref q_56])), (q_34, .inl (aC 0, 7, .inl (fun _ => 0)))]) hD hS hA [0, 1] rfl
      refine va_calli (va_runV (As := [.int (xs 1)]) (rest := [.int x_295]) ⟨hx, hb, hml, hown, hts⟩ (c_X12_got_r l dC dI aC H.size q_31 q_34 q_35 q_36 q_37 q_38 q_39 q_40 q_41 q_42 q_43 q_44 q_45 q_46 q_47 q_48 q_49 q_50 q_51 q_52 q_53 q_54 q_55 q_56 0 0 0 0 0 0 0 0 0 0 (fun _ => 0) (xs 1) (no0 _)) ⟨(callB_of 1 hts (gG kw_1014) rfl rfl rfl (hts _ (gw kw_13 rfl)) (hts _ (gw kw_1011 rfl)) (by decide +kernel) ⟨Nat.le_of_ble_eq_true rfl, Nat.le_of_ble_eq_true rfl⟩), (hts _ (gw kw_1012 rfl)), (hts _ (gw kw_1013 rfl))⟩ ⟨fun a U g mk q => by obtain ⟨q0, q1, qP, qK, qD, qN⟩ := q; exact ⟨q0, q1, qP, va_K.moved (u := U) (U := U.calling g mk a) (Vm.Alike.refl U.vm) qK, qD, NX.same (u := U) (U := U.calling g mk a) rfl qN⟩, va_recv hK hPc (ci := 12) (q0 := 0) rfl rfl, fun U hU hW => ⟨rfl, by rw [hU], by rw [hU]; exact hPc, va_K.moved hW.alike hK, hDc.weaken (fun _ _ _ _ => trivial), NX.warm hW hN⟩⟩ rfl rfl hl.1 rfl (lv_room (Nat.le_of_ble_eq_true rfl)) dL_law_554 ⟨Nat.le_of_ble_eq_true rfl, Nat.le_of_ble_eq_true rfl⟩) hS (fun q _ h => hFc q h) hFc (fun x_299 u t H1 locs ht hvm hw_299 hB hz1 hk1 hS => ?_)
      obtain ⟨hP1, hK1, hD1⟩ := hB
      rw [ht] at hP1
      clear hK1
      try dsimp only at hw_299
      obtain ⟨hP, hD⟩ := va_join (wr := []) (w1 := []) hP hD [0, 1] [] rfl rfl (by decide) (by decide) hk1 hFc hP1 hD1
      generalize H1 = H at hP hS ⊢
      have hP : va_P (dC, dI) classes [] H := hP
      have hD : va_D A [] := hD
      clear hPc hDc hFc hz1 hk1 hP1 hD1 ht hvm
      refine lv_icmp_eq (tgt := 908) hx hb dL_law_557 (by decide) (fun c_300 => ?_) (fun c_300 => ?_)
      · obtain ⟨x_301, e_301⟩ : ∃ y : Int32, y = 0 + 5 := ⟨_, rfl⟩
        refine lv_iinc (v := x_301) (lv' := [(3, .int x_301), (2, .ref q_31), (1, .ref q_1), (0, .ref b)]) hx hb dL_law_908 hl (k := 0) rfl (by rw [e_301]; rfl) (by decide) rfl (fun ls hl => ?_)
        have h9 : x_301 = 5 := by rw [e_301]; decide
        subst h9
        refine lv_goto (tgt := 18) hx hb dL_law_911 (by decide) ?_
        refine lv_iload_n hx hb dL_law_18 rfl (lv_at hl 0 rfl) ?_
        refine lv_aload_n hx hb dL_law_19 rfl (lv_at hl 3 rfl) ?_
        refine va_slen hx hb hX hbl hbA hS dL_law_20 ?_
        refine lv_topi (fun x_302 e_302 => ?_)
        refine lv_iconst (v := 5) hx hb dL_law_21 (by decide) ?_
        refine lv_isub hx hb dL_law_22 ?_
        refine lv_topi (fun x_303 e_303 => ?_)
        refine lv_icmp_gt (tgt := 914) hx hb dL_law_23 (by decide) (fun c_304 => ?_) (fun c_304 => ?_)
        · refine lv_iconst (v := 1) hx hb dL_law_914 (by decide) ?_
          refine va_forget (fun q hq => by have := hS.2.2 q hq; rw [hAe] at this; exact this) ?_
          refine W.widen (k := 600000) (n := 7302250) (Nat.le_of_ble_eq_true rfl) (Nat.le_of_ble_eq_true rfl) ?_
          exact lw_ret hx hb hr hlocks dL_law_915
        · exact absurd (by rw [e_303, e_302]; decide) c_304
      · exact absurd (by rw [hw_295, hw_299]) c_300
    by_cases c_305 : x_62 = 16
    · refine lv_tableIn (tgt := 562) hx hb dL_law_32 (by rw [c_305]; decide) (by rw [c_305]; decide) (by rw [c_305]; rfl) (by decide) ?_
      have hP : va_P (dC, dI) classes [(q_1, .inr (11, [.ref q_5, .ref q_6, .ref q_7, .ref q_8, .ref q_9, .ref q_10, .ref q_11, .ref q_12, .ref q_13, .ref q_14, .ref q_15, .int 0, .int 0, .int 1])), (q_7, .inr (4, [.ref q_16, .ref q_17, .ref q_18, .ref q_19, .ref q_20, .int 0, .int 0, .int 0])), (q_20, .inl (aC 0, 5, .inl SET0)), (q_11, .inr (2, [.ref q_27, .ref q_28, .ref q_29, .ref q_30, .int 0, .int 0])), (q_27, .inl (aC 0, 60, .inl (fun _ => 0))), (q_28, .inl (aC 0, 60, .inl (fun _ => 0))), (q_29, .inl (aC 0, 60, .inl (fun _ => 0))), (q_30, .inr (0, [])), (q_14, .inl (aC 0, 7, .inl (fun _ => 0))), (q_31, .inr (12, [.ref q_34, .ref q_35, .ref q_36, .ref q_37, .ref q_38, .ref q_39, .int 0, .int 0, .int 0, .ref q_40, .ref q_41, .ref q_42, .ref q_43, .int 0, .int 0, .int 0, .ref q_44, .int 0, .int 0, .int 0, .ref q_45, .ref q_46, .ref q_47, .ref q_48, .ref q_49, .ref q_50, .ref q_51, .ref q_52, .int 0, .ref q_53, .ref q_54, .ref q_55, .ref q_56])), (q_34, .inl (aC 0, 7, .inl (fun _ => 0))), (q_39, .inl (aC 0, 5, .inl SET0)), (q_54, .inl (aC 0, 61, .inl (fun _ => 0))), (q_55, .inl (aC 0, 61, .inl (fun _ => 0)))] H := hP.sub [0, 1, 6, 15, 16, 17, 18, 19, 21, 22, 23, 28, 32, 33] rfl
      have hD : va_D A [(q_1, .inr (11, [.ref q_5, .ref q_6, .ref q_7, .ref q_8, .ref q_9, .ref q_10, .ref q_11, .ref q_12, .ref q_13, .ref q_14, .ref q_15, .int 0, .int 0, .int 1])), (q_7, .inr (4, [.ref q_16, .ref q_17, .ref q_18, .ref q_19, .ref q_20, .int 0, .int 0, .int 0])), (q_20, .inl (aC 0, 5, .inl SET0)), (q_11, .inr (2, [.ref q_27, .ref q_28, .ref q_29, .ref q_30, .int 0, .int 0])), (q_27, .inl (aC 0, 60, .inl (fun _ => 0))), (q_28, .inl (aC 0, 60, .inl (fun _ => 0))), (q_29, .inl (aC 0, 60, .inl (fun _ => 0))), (q_30, .inr (0, [])), (q_14, .inl (aC 0, 7, .inl (fun _ => 0))), (q_31, .inr (12, [.ref q_34, .ref q_35, .ref q_36, .ref q_37, .ref q_38, .ref q_39, .int 0, .int 0, .int 0, .ref q_40, .ref q_41, .ref q_42, .ref q_43, .int 0, .int 0, .int 0, .ref q_44, .int 0, .int 0, .int 0, .ref q_45, .ref q_46, .ref q_47, .ref q_48, .ref q_49, .ref q_50, .ref q_51, .ref q_52, .int 0, .ref q_53, .ref q_54, .ref q_55, .ref q_56])), (q_34, .inl (aC 0, 7, .inl (fun _ => 0))), (q_39, .inl (aC 0, 5, .inl SET0)), (q_54, .inl (aC 0, 61, .inl (fun _ => 0))), (q_55, .inl (aC 0, 61, .inl (fun _ => 0)))] := hD.sub [0, 1, 6, 15, 16, 17, 18, 19, 21, 22, 23, 28, 32, 33] (by decide) rfl
      refine lv_aload_n hx hb dL_law_562 rfl (lv_at hl 2 rfl) ?_
      refine lv_aload_n hx hb dL_law_563 rfl (lv_at hl 3 rfl) ?_
      refine lv_iload_n hx hb dL_law_564 rfl (lv_at hl 0 rfl) ?_
      refine lv_iconst (v := 1) hx hb dL_law_565 (by decide) ?_
      refine lv_iadd hx hb dL_law_566 ?_
      refine lv_topi (fun x_306 e_306 => ?_)
      have h9 : x_306 = 1 := by rw [e_306]; decide
      subst h9
      have h_307 : vp_in 1 5 := by first | assumption | (unfold vp_in; decide) | exact vp_in_nI (by omega) (by omega) | (subst_vars; first | (unfold vp_in; decide) | exact vp_in_nI (by omega) (by omega))
      refine va_sld hx hb hX hbl hbA hS h_307 dL_law_567 ?_
      refine lv_topi (fun x_308 e_308 => ?_)
      have h9 : x_308 = (xs 1) := by rw [e_308]; rfl
      subst h9
      refine lv_aload_n hx hb dL_law_568 rfl (lv_at hl 3 rfl) ?_
      refine lv_iload_n hx hb dL_law_569 rfl (lv_at hl 0 rfl) ?_
      refine lv_iconst (v := 2) hx hb dL_law_570 (by decide) ?_
      refine lv_iadd hx hb dL_law_571 ?_
      refine lv_topi (fun x_309 e_309 => ?_)
      have h9 : x_309 = 2 := by rw [e_309]; decide
      subst h9
      have h_310 : vp_in 2 5 := by first | assumption | (unfold vp_in; decide) | exact vp_in_nI (by omega) (by omega) | (subst_vars; first | (unfold vp_in; decide) | exact vp_in_nI (by omega) (by omega))
      refine va_sld hx hb hX hbl hbA hS h_310 dL_law_572 ?_
      refine lv_topi (fun x_311 e_311 => ?_)
      have h9 : x_311 = (xs 2) := by rw [e_311]; rfl
      subst h9
      refine lv_aload_n hx hb dL_law_573 rfl (lv_at hl 3 rfl) ?_
      refine lv_iload_n hx hb dL_law_574 rfl (lv_at hl 0 rfl) ?_
      refine lv_iconst (v := 3) hx hb dL_law_575 (by decide) ?_
      refine lv_iadd hx hb dL_law_576 ?_
      refine lv_topi (fun x_312 e_312 => ?_)
      have h9 : x_312 = 3 := by rw [e_312]; decide
      subst h9
      have h_313 : vp_in 3 5 := by first | assumption | (unfold vp_in; decide) | exact vp_in_nI (by omega) (by omega) | (subst_vars; first | (unfold vp_in; decide) | exact vp_in_nI (by omega) (by omega))
      refine va_sld hx hb hX hbl hbA hS h_313 dL_law_577 ?_
      refine lv_topi (fun x_314 e_314 => ?_)
      have h9 : x_314 = (xs 3) := by rw [e_314]; rfl
      subst h9
      refine lv_aload_n hx hb dL_law_578 rfl (lv_at hl 3 rfl) ?_
      refine lv_iload_n hx hb dL_law_579 rfl (lv_at hl 0 rfl) ?_
      refine lv_iconst (v := 4) hx hb dL_law_580 (by decide) ?_
      refine lv_iadd hx hb dL_law_581 ?_
      refine lv_topi (fun x_315 e_315 => ?_)
      have h9 : x_315 = 4 := by rw [e_315]; decide
      subst h9
      have h_316 : vp_in 4 5 := by first | assumption | (unfold vp_in; decide) | exact vp_in_nI (by omega) (by omega) | (subst_vars; first | (unfold vp_in; decide) | exact vp_in_nI (by omega) (by omega))
      refine va_sld hx hb hX hbl hbA hS h_316 dL_law_582 ?_
      refine lv_topi (fun x_317 e_317 => ?_)
      have h9 : x_317 = (xs 4) := by rw [e_317]; rfl
      subst h9
      refine lv_if_eq (tgt := 590) hx hb dL_law_583 (by decide) (fun c_318 => ?_) (fun c_318 => ?_)
      · refine lv_iconst (v := 0) hx hb dL_law_590 (by decide) ?_
        have hPc := hP.sub (ws' := [(q_1, .inr (11, [.ref q_5, .ref q_6, .ref q_7, .ref q_8, .ref q_9, .ref q_10, .ref q_11, .ref q_12, .ref q_13, .ref q_14, .ref q_15, .int 0, .int 0, .int 1])), (q_7, .inr (4, [.ref q_16, .ref q_17, .ref q_18, .ref q_19, .ref q_20, .int 0, .int 0, .int 0])), (q_11, .inr (2, [.ref q_27, .ref q_28, .ref q_29, .ref q_30, .int 0, .int 0])), (q_27, .inl (aC 0, 60, .inl (fun _ => 0))), (q_28, .inl (aC 0, 60, .inl (fun _ => 0))), (q_29, .inl (aC 0, 60, .inl (fun _ => 0))), (q_30, .inr (0, [])), (q_20, .inl (aC 0, 5, .inl SET0)), (q_14, .inl (aC 0, 7, .inl (fun _ => 0)))]) [0, 1, 3, 4, 5, 6, 7, 2, 8] rfl
        have hDc := hD.sub (ws' := [(q_1, .inr (11, [.ref q_5, .ref q_6, .ref q_7, .ref q_8, .ref q_9, .ref q_10, .ref q_11, .ref q_12, .ref q_13, .ref q_14, .ref q_15, .int 0, .int 0, .int 1])), (q_7, .inr (4, [.ref q_16, .ref q_17, .ref q_18, .ref q_19, .ref q_20, .int 0, .int 0, .int 0])), (q_11, .inr (2, [.ref q_27, .ref q_28, .ref q_29, .ref q_30, .int 0, .int 0])), (q_27, .inl (aC 0, 60, .inl (fun _ => 0))), (q_28, .inl (aC 0, 60, .inl (fun _ => 0))), (q_29, .inl (aC 0, 60, .inl (fun _ => 0))), (q_30, .inr (0, [])), (q_20, .inl (aC 0, 5, .inl SET0)), (q_14, .inl (aC 0, 7, .inl (fun _ => 0)))]) [0, 1, 3, 4, 5, 6, 7, 2, 8] (by decide) rfl
        have hFc := va_free (wc := [(q_1, .inr (11, [.ref q_5, .ref q_6, .ref q_7, .ref q_8, .ref q_9, .ref q_10, .ref q_11, .ref q_12, .ref q_13, .ref q_14, .ref q_15, .int 0, .int 0, .int 1])), (q_7, .inr (4, [.ref q_16, .ref q_17, .ref q_18, .ref q_19, .ref q_20, .int 0, .int 0, .int 0])), (q_11, .inr (2, [.ref q_27, .ref q_28, .ref q_29, .ref q_30, .int 0, .int 0])), (q_27, .inl (aC 0, 60, .inl (fun _ => 0))), (q_28, .inl (aC 0, 60, .inl (fun _ => 0))), (q_29, .inl (aC 0, 60, .inl (fun _ => 0))), (q_30, .inr (0, [])), (q_20, .inl (aC 0, 5, .inl SET0)), (q_14, .inl (aC 0, 7, .inl (fun _ => 0)))]) hD hS hA [0, 1, 3, 4, 5, 6, 7, 2, 8] rfl
        refine va_calli (va_runV (As := [.int (xs 1), .int (xs 2), .int (xs 3), .int 0]) (rest := []) ⟨hx, hb, hml, hown, hts⟩ (c_X11_alike l dC dI aC H.size q_1 q_5 q_6 q_7 q_8 q_9 q_10 q_11 q_12 q_13 q_14 q_15 0 0 1 q_16 q_17 q_18 q_19 q_20 0 0 0 q_27 q_28 q_29 q_30 0 0 (fun _ => 0) (fun _ => 0) (fun _ => 0) SET0 (fun _ => 0) (xs 1) (xs 2) (xs 3) 0 (rfl)) ⟨(callB_of 4 hts (gG kw_560) rfl rfl rfl (hts _ (gw kw_1 rfl)) (hts _ (gw kw_557 rfl)) (by decide +kernel) ⟨Nat.le_of_ble_eq_true rfl, Nat.le_of_ble_eq_true rfl⟩), (hts _ (gw kw_558 rfl)), (hts _ (gw kw_559 rfl))⟩ ⟨fun a U g mk q => by obtain ⟨q0, q1, qP, qK, qD, qN⟩ := q; exact ⟨q0, q1, qP, va_K.moved (u := U) (U := U.calling g mk a) (Vm.Alike.refl U.vm) qK, qD, NX.same (u := U) (U := U.calling g mk a) rfl qN⟩, va_recv hK hPc (ci := 11) (q0 := 0) rfl rfl, fun U hU hW => ⟨rfl, by rw [hU], by rw [hU]; exact hPc, va_K.moved hW.alike hK, hDc.weaken (fun _ _ _ _ => trivial), NX.warm hW hN⟩⟩ rfl rfl hl.1 rfl (lv_room (Nat.le_of_ble_eq_true rfl)) dL_law_591 ⟨Nat.le_of_ble_eq_true rfl, Nat.le_of_ble_eq_true rfl⟩) hS (fun q _ h => hFc q h) hFc (fun x_319 u t H1 locs ht hvm hw_319 hB hz1 hk1 hS => ?_)
        obtain ⟨hP1, hK1, hD1⟩ := hB
        rw [ht] at hP1
        clear hK1
        try dsimp only at hw_319
        obtain ⟨hP, hD⟩ := va_join (wr := [(q_31, .inr (12, [.ref q_34, .ref q_35, .ref q_36, .ref q_37, .ref q_38, .ref q_39, .int 0, .int 0, .int 0, .ref q_40, .ref q_41, .ref q_42, .ref q_43, .int 0, .int 0, .int 0, .ref q_44, .int 0, .int 0, .int 0, .ref q_45, .ref q_46, .ref q_47, .ref q_48, .ref q_49, .ref q_50, .ref q_51, .ref q_52, .int 0, .ref q_53, .ref q_54, .ref q_55, .ref q_56])), (q_34, .inl (aC 0, 7, .inl (fun _ => 0))), (q_39, .inl (aC 0, 5, .inl SET0)), (q_54, .inl (aC 0, 61, .inl (fun _ => 0))), (q_55, .inl (aC 0, 61, .inl (fun _ => 0)))]) (w1 := []) hP hD [0, 1, 3, 4, 5, 6, 7, 2, 8] [9, 10, 11, 12, 13] rfl rfl (by decide) (by decide) hk1 hFc hP1 hD1
        generalize H1 = H at hP hS ⊢
        have hP : va_P (dC, dI) classes [(q_31, .inr (12, [.ref q_34, .ref q_35, .ref q_36, .ref q_37, .ref q_38, .ref q_39, .int 0, .int 0, .int 0, .ref q_40, .ref q_41, .ref q_42, .ref q_43, .int 0, .int 0, .int 0, .ref q_44, .int 0, .int 0, .int 0, .ref q_45, .ref q_46, .ref q_47, .ref q_48, .ref q_49, .ref q_50, .ref q_51, .ref q_52, .int 0, .ref q_53, .ref q_54, .ref q_55, .ref q_56])), (q_34, .inl (aC 0, 7, .inl (fun _ => 0))), (q_39, .inl (aC 0, 5, .inl SET0)), (q_54, .inl (aC 0, 61, .inl (fun _ => 0))), (q_55, .inl (aC 0, 61, .inl (fun _ => 0)))] H := hP
        have hD : va_D A [(q_31, .inr (12, [.ref q_34, .ref q_35, .ref q_36, .ref q_37, .ref q_38, .ref q_39, .int 0, .int 0, .int 0, .ref q_40, .ref q_41, .ref q_42, .ref q_43, .int 0, .int 0, .int 0, .ref q_44, .int 0, .int 0, .int 0, .ref q_45, .ref q_46, .ref q_47, .ref q_48, .ref q_49, .ref q_50, .ref q_51, .ref q_52, .int 0, .ref q_53, .ref q_54, .ref q_55, .ref q_56])), (q_34, .inl (aC 0, 7, .inl (fun _ => 0))), (q_39, .inl (aC 0, 5, .inl SET0)), (q_54, .inl (aC 0, 61, .inl (fun _ => 0))), (q_55, .inl (aC 0, 61, .inl (fun _ => 0)))] := hD
        clear hPc hDc hFc hz1 hk1 hP1 hD1 ht hvm
        refine lv_aload_n hx hb dL_law_594 rfl (lv_at hl 1 rfl) ?_
        refine lv_aload_n hx hb dL_law_595 rfl (lv_at hl 3 rfl) ?_
        refine lv_iload_n hx hb dL_law_596 rfl (lv_at hl 0 rfl) ?_
        refine lv_iconst (v := 1) hx hb dL_law_597 (by decide) ?_
        refine lv_iadd hx hb dL_law_598 ?_
        refine lv_topi (fun x_320 e_320 => ?_)
        have h9 : x_320 = 1 := by rw [e_320]; decide
        subst h9
        have h_321 : vp_in 1 5 := by first | assumption | (unfold vp_in; decide) | exact vp_in_nI (by omega) (by omega) | (subst_vars; first | (unfold vp_in; decide) | exact vp_in_nI (by omega) (by omega))
        refine va_sld hx hb hX hbl hbA hS h_321 dL_law_599 ?_
        refine lv_topi (fun x_322 e_322 => ?_)
        have h9 : x_322 = (xs 1) := by rw [e_322]; rfl
        subst h9
        refine lv_aload_n hx hb dL_law_600 rfl (lv_at hl 3 rfl) ?_
        refine lv_iload_n hx hb dL_law_601 rfl (lv_at hl 0 rfl) ?_
        refine lv_iconst (v := 2) hx hb dL_law_602 (by decide) ?_
        refine lv_iadd hx hb dL_law_603 ?_
        refine lv_topi (fun x_323 e_323 => ?_)
        have h9 : x_323 = 2 := by rw [e_323]; decide
        subst h9
        have h_324 : vp_in 2 5 := by first | assumption | (unfold vp_in; decide) | exact vp_in_nI (by omega) (by omega) | (subst_vars; first | (unfold vp_in; decide) | exact vp_in_nI (by omega) (by omega))
        refine va_sld hx hb hX hbl hbA hS h_324 dL_law_604 ?_
        refine lv_topi (fun x_325 e_325 => ?_)
        have h9 : x_325 = (xs 2) := by rw [e_325]; rfl
        subst h9
        refine lv_aload_n hx hb dL_law_605 rfl (lv_at hl 3 rfl) ?_
        refine lv_iload_n hx hb dL_law_606 rfl (lv_at hl 0 rfl) ?_
        refine lv_iconst (v := 3) hx hb dL_law_607 (by decide) ?_
        refine lv_iadd hx hb dL_law_608 ?_
        refine lv_topi (fun x_326 e_326 => ?_)
        have h9 : x_326 = 3 := by rw [e_326]; decide
        subst h9
        have h_327 : vp_in 3 5 := by first | assumption | (unfold vp_in; decide) | exact vp_in_nI (by omega) (by omega) | (subst_vars; first | (unfold vp_in; decide) | exact vp_in_nI (by omega) (by omega))
        refine va_sld hx hb hX hbl hbA hS h_327 dL_law_609 ?_
        refine lv_topi (fun x_328 e_328 => ?_)
        have h9 : x_328 = (xs 3) := by rw [e_328]; rfl
        subst h9
        refine lv_aload_n hx hb dL_law_610 rfl (lv_at hl 3 rfl) ?_
        refine lv_iload_n hx hb dL_law_611 rfl (lv_at hl 0 rfl) ?_
        refine lv_iconst (v := 4) hx hb dL_law_612 (by decide) ?_
        refine lv_iadd hx hb dL_law_613 ?_
        refine lv_topi (fun x_329 e_329 => ?_)
        have h9 : x_329 = 4 := by rw [e_329]; decide
        subst h9
        have h_330 : vp_in 4 5 := by first | assumption | (unfold vp_in; decide) | exact vp_in_nI (by omega) (by omega) | (subst_vars; first | (unfold vp_in; decide) | exact vp_in_nI (by omega) (by omega))
        refine va_sld hx hb hX hbl hbA hS h_330 dL_law_614 ?_
        refine lv_topi (fun x_331 e_331 => ?_)
        have h9 : x_331 = (xs 4) := by rw [e_331]; rfl
        subst h9
        refine lv_if_eq (tgt := 622) hx hb dL_law_615 (by decide) (fun c_332 => ?_) (fun c_332 => ?_)
        · refine lv_iconst (v := 0) hx hb dL_law_622 (by decide) ?_
          have hPc := hP.sub (ws' := [(q_31, .inr (12, [.ref q_34, .ref q_35, .ref q_36, .ref q_37, .ref q_38, .ref q_39, .int 0, .int 0, .int 0, .ref q_40, .ref q_41, .ref q_42, .ref q_43, .int 0, .int 0, .int 0, .ref q_44, .int 0, .int 0, .int 0, .ref q_45, .ref q_46, .ref q_47, .ref q_48, .ref q_49, .ref q_50, .ref q_51, .ref q_52, .int 0, .ref q_53, .ref q_54, .ref q_55, .ref q_56])), (q_39, .inl (aC 0, 5, .inl SET0)), (q_54, .inl (aC 0, 61, .inl (fun _ => 0))), (q_55, .inl (aC 0, 61, .inl (fun _ => 0))), (q_34, .inl (aC 0, 7, .inl (fun _ => 0)))]) [0, 2, 3, 4, 1] rfl
          have hDc := hD.sub (ws' := [(q_31, .inr (12, [.ref q_34, .ref q_35, .ref q_36, .ref q_37, .ref q_38, .ref q_39, .int 0, .int 0, .int 0, .ref q_40, .ref q_41, .ref q_42, .ref q_43, .int 0, .int 0, .int 0, .ref q_44, .int 0, .int 0, .int 0, .ref q_45, .ref q_46, .ref q_47, .ref q_48, .ref q_49, .ref q_50, .ref q_51, .ref q_52, .int 0, .ref q_53, .ref q_54, .ref q_55, .ref q_56])), (q_39, .inl (aC 0, 5, .inl SET0)), (q_54, .inl (aC 0, 61, .inl (fun _ => 0))), (q_55, .inl (aC 0, 61, .inl (fun _ => 0))), (q_34, .inl (aC 0, 7, .inl (fun _ => 0)))]) [0, 2, 3, 4, 1] (by decide) rfl
          have hFc := va_free (wc := [(q_31, .inr (12, [.ref q_34, .ref q_35, .ref q_36, .ref q_37, .ref q_38, .ref q_39, .int 0, .int 0, .int 0, .ref q_40, .ref q_41, .ref q_42, .ref q_43, .int 0, .int 0, .int 0, .ref q_44, .int 0, .int 0, .int 0, .ref q_45, .ref q_46, .ref q_47, .ref q_48, .ref q_49, .ref q_50, .ref q_51, .ref q_52, .int 0, .ref q_53, .ref q_54, .ref q_55, .ref q_56])), (q_39, .inl (aC 0, 5, .inl SET0)), (q_54, .inl (aC 0, 61, .inl (fun _ => 0))), (q_55, .inl (aC 0, 61, .inl (fun _ => 0))), (q_34, .inl (aC 0, 7, .inl (fun _ => 0)))]) hD hS hA [0, 2, 3, 4, 1] rfl
          refine va_calli (va_runV (As := [.int (xs 1), .int (xs 2), .int (xs 3), .int 0]) (rest := [.int x_319]) ⟨hx, hb, hml, hown, hts⟩ (c_X12_alike l dC dI aC H.size q_31 q_34 q_35 q_36 q_37 q_38 q_39 q_40 q_41 q_42 q_43 q_44 q_45 q_46 q_47 q_48 q_49 q_50 q_51 q_52 q_53 q_54 q_55 q_56 0 0 0 0 0 0 0 0 0 0 (fun _ => 0) SET0 (fun _ => 0) (fun _ => 0) (xs 1) (xs 2) (xs 3) 0 (rfl)) ⟨(callB_of 4 hts (gG kw_1018) rfl rfl rfl (hts _ (gw kw_13 rfl)) (hts _ (gw kw_1015 rfl)) (by decide +kernel) ⟨Nat.le_of_ble_eq_true rfl, Nat.le_of_ble_eq_true rfl⟩), (hts _ (gw kw_1016 rfl)), (hts _ (gw kw_1017 rfl))⟩ ⟨fun a U g mk q => by obtain ⟨q0, q1, qP, qK, qD, qN⟩ := q; exact ⟨q0, q1, qP, va_K.moved (u := U) (U := U.calling g mk a) (Vm.Alike.refl U.vm) qK, qD, NX.same (u := U) (U := U.calling g mk a) rfl qN⟩, va_recv hK hPc (ci := 12) (q0 := 0) rfl rfl, fun U hU hW => ⟨rfl, by rw [hU], by rw [hU]; exact hPc, va_K.moved hW.alike hK, hDc.weaken (fun _ _ _ _ => trivial), NX.warm hW hN⟩⟩ rfl rfl hl.1 rfl (lv_room (Nat.le_of_ble_eq_true rfl)) dL_law_623 ⟨Nat.le_of_ble_eq_true rfl, Nat.le_of_ble_eq_true rfl⟩) hS (fun q _ h => hFc q h) hFc (fun x_333 u t H1 locs ht hvm hw_333 hB hz1 hk1 hS => ?_)
          obtain ⟨hP1, hK1, hD1⟩ := hB
          rw [ht] at hP1
          clear hK1
          try dsimp only at hw_333
          obtain ⟨hP, hD⟩ := va_join (wr := []) (w1 := []) hP hD [0, 2, 3, 4, 1] [] rfl rfl (by decide) (by decide) hk1 hFc hP1 hD1
          generalize H1 = H at hP hS ⊢
          have hP : va_P (dC, dI) classes [] H := hP
          have hD : va_D A [] := hD
          clear hPc hDc hFc hz1 hk1 hP1 hD1 ht hvm
          refine lv_icmp_eq (tgt := 908) hx hb dL_law_626 (by decide) (fun c_334 => ?_) (fun c_334 => ?_)
          · obtain ⟨x_335, e_335⟩ : ∃ y : Int32, y = 0 + 5 := ⟨_, rfl⟩
            refine lv_iinc (v := x_335) (lv' := [(3, .int x_335), (2, .ref q_31), (1, .ref q_1), (0, .ref b)]) hx hb dL_law_908 hl (k := 0) rfl (by rw [e_335]; rfl) (by decide) rfl (fun ls hl => ?_)
            have h9 : x_335 = 5 := by rw [e_335]; decide
            subst h9
            refine lv_goto (tgt := 18) hx hb dL_law_911 (by decide) ?_
            refine lv_iload_n hx hb dL_law_18 rfl (lv_at hl 0 rfl) ?_
            refine lv_aload_n hx hb dL_law_19 rfl (lv_at hl 3 rfl) ?_
            refine va_slen hx hb hX hbl hbA hS dL_law_20 ?_
            refine lv_topi (fun x_336 e_336 => ?_)
            refine lv_iconst (v := 5) hx hb dL_law_21 (by decide) ?_
            refine lv_isub hx hb dL_law_22 ?_
            refine lv_topi (fun x_337 e_337 => ?_)
            refine lv_icmp_gt (tgt := 914) hx hb dL_law_23 (by decide) (fun c_338 => ?_) (fun c_338 => ?_)
            · refine lv_iconst (v := 1) hx hb dL_law_914 (by decide) ?_
              refine va_forget (fun q hq => by have := hS.2.2 q hq; rw [hAe] at this; exact this) ?_
              refine W.widen (k := 600000) (n := 7302250) (Nat.le_of_ble_eq_true rfl) (Nat.le_of_ble_eq_true rfl) ?_
              exact lw_ret hx hb hr hlocks dL_law_915
            · exact absurd (by rw [e_337, e_336]; decide) c_338
          · exact absurd (by rw [hw_319, hw_333]) c_334
        · exact absurd c_318 c_332
      · refine lv_iconst (v := 1) hx hb dL_law_586 (by decide) ?_
        refine lv_goto (tgt := 591) hx hb dL_law_587 (by decide) ?_
        have hPc := hP.sub (ws' := [(q_1, .inr (11, [.ref q_5, .ref q_6, .ref q_7, .ref q_8, .ref q_9, .ref q_10, .ref q_11, .ref q_12, .ref q_13, .ref q_14, .ref q_15, .int 0, .int 0, .int 1])), (q_7, .inr (4, [.ref q_16, .ref q_17, .ref q_18, .ref q_19, .ref q_20, .int 0, .int 0, .int 0])), (q_11, .inr (2, [.ref q_27, .ref q_28, .ref q_29, .ref q_30, .int 0, .int 0])), (q_27, .inl (aC 0, 60, .inl (fun _ => 0))), (q_28, .inl (aC 0, 60, .inl (fun _ => 0))), (q_29, .inl (aC 0, 60, .inl (fun _ => 0))), (q_30, .inr (0, [])), (q_20, .inl (aC 0, 5, .inl SET0)), (q_14, .inl (aC 0, 7, .inl (fun _ => 0)))]) [0, 1, 3, 4, 5, 6, 7, 2, 8] rfl
        have hDc := hD.sub (ws' := [(q_1, .inr (11, [.ref q_5, .ref q_6, .ref q_7, .ref q_8, .ref q_9, .ref q_10, .ref q_11, .ref q_12, .ref q_13, .ref q_14, .ref q_15, .int 0, .int 0, .int 1])), (q_7, .inr (4, [.ref q_16, .ref q_17, .ref q_18, .ref q_19, .ref q_20, .int 0, .int 0, .int 0])), (q_11, .inr (2, [.ref q_27, .ref q_28, .ref q_29, .ref q_30, .int 0, .int 0])), (q_27, .inl (aC 0, 60, .inl (fun _ => 0))), (q_28, .inl (aC 0, 60, .inl (fun _ => 0))), (q_29, .inl (aC 0, 60, .inl (fun _ => 0))), (q_30, .inr (0, [])), (q_20, .inl (aC 0, 5, .inl SET0)), (q_14, .inl (aC 0, 7, .inl (fun _ => 0)))]) [0, 1, 3, 4, 5, 6, 7, 2, 8] (by decide) rfl
        have hFc := va_free (wc := [(q_1, .inr (11, [.ref q_5, .ref q_6, .ref q_7, .ref q_8, .ref q_9, .ref q_10, .ref q_11, .ref q_12, .ref q_13, .ref q_14, .ref q_15, .int 0, .int 0, .int 1])), (q_7, .inr (4, [.ref q_16, .ref q_17, .ref q_18, .ref q_19, .ref q_20, .int 0, .int 0, .int 0])), (q_11, .inr (2, [.ref q_27, .ref q_28, .ref q_29, .ref q_30, .int 0, .int 0])), (q_27, .inl (aC 0, 60, .inl (fun _ => 0))), (q_28, .inl (aC 0, 60, .inl (fun _ => 0))), (q_29, .inl (aC 0, 60, .inl (fun _ => 0))), (q_30, .inr (0, [])), (q_20, .inl (aC 0, 5, .inl SET0)), (q_14, .inl (aC 0, 7, .inl (fun _ => 0)))]) hD hS hA [0, 1, 3, 4, 5, 6, 7, 2, 8] rfl
        refine va_calli (va_runV (As := [.int (xs 1), .int (xs 2), .int (xs 3), .int 1]) (rest := []) ⟨hx, hb, hml, hown, hts⟩ (c_X11_alike l dC dI aC H.size q_1 q_5 q_6 q_7 q_8 q_9 q_10 q_11 q_12 q_13 q_14 q_15 0 0 1 q_16 q_17 q_18 q_19 q_20 0 0 0 q_27 q_28 q_29 q_30 0 0 (fun _ => 0) (fun _ => 0) (fun _ => 0) SET0 (fun _ => 0) (xs 1) (xs 2) (xs 3) 1 (rfl)) ⟨(callB_of 4 hts (gG kw_560) rfl rfl rfl (hts _ (gw kw_1 rfl)) (hts _ (gw kw_557 rfl)) (by decide +kernel) ⟨Nat.le_of_ble_eq_true rfl, Nat.le_of_ble_eq_true rfl⟩), (hts _ (gw kw_558 rfl)), (hts _ (gw kw_559 rfl))⟩ ⟨fun a U g mk q => by obtain ⟨q0, q1, qP, qK, qD, qN⟩ := q; exact ⟨q0, q1, qP, va_K.moved (u := U) (U := U.calling g mk a) (Vm.Alike.refl U.vm) qK, qD, NX.same (u := U) (U := U.calling g mk a) rfl qN⟩, va_recv hK hPc (ci := 11) (q0 := 0) rfl rfl, fun U hU hW => ⟨rfl, by rw [hU], by rw [hU]; exact hPc, va_K.moved hW.alike hK, hDc.weaken (fun _ _ _ _ => trivial), NX.warm hW hN⟩⟩ rfl rfl hl.1 rfl (lv_room (Nat.le_of_ble_eq_true rfl)) dL_law_591 ⟨Nat.le_of_ble_eq_true rfl, Nat.le_of_ble_eq_true rfl⟩) hS (fun q _ h => hFc q h) hFc (fun x_339 u t H1 locs ht hvm hw_339 hB hz1 hk1 hS => ?_)
        obtain ⟨hP1, hK1, hD1⟩ := hB
        rw [ht] at hP1
        clear hK1
        try dsimp only at hw_339
        obtain ⟨hP, hD⟩ := va_join (wr := [(q_31, .inr (12, [.ref q_34, .ref q_35, .ref q_36, .ref q_37, .ref q_38, .ref q_39, .int 0, .int 0, .int 0, .ref q_40, .ref q_41, .ref q_42, .ref q_43, .int 0, .int 0, .int 0, .ref q_44, .int 0, .int 0, .int 0, .ref q_45, .ref q_46, .ref q_47, .ref q_48, .ref q_49, .ref q_50, .ref q_51, .ref q_52, .int 0, .ref q_53, .ref q_54, .ref q_55, .ref q_56])), (q_34, .inl (aC 0, 7, .inl (fun _ => 0))), (q_39, .inl (aC 0, 5, .inl SET0)), (q_54, .inl (aC 0, 61, .inl (fun _ => 0))), (q_55, .inl (aC 0, 61, .inl (fun _ => 0)))]) (w1 := []) hP hD [0, 1, 3, 4, 5, 6, 7, 2, 8] [9, 10, 11, 12, 13] rfl rfl (by decide) (by decide) hk1 hFc hP1 hD1
        generalize H1 = H at hP hS ⊢
        have hP : va_P (dC, dI) classes [(q_31, .inr (12, [.ref q_34, .ref q_35, .ref q_36, .ref q_37, .ref q_38, .ref q_39, .int 0, .int 0, .int 0, .ref q_40, .ref q_41, .ref q_42, .ref q_43, .int 0, .int 0, .int 0, .ref q_44, .int 0, .int 0, .int 0, .ref q_45, .ref q_46, .ref q_47, .ref q_48, .ref q_49, .ref q_50, .ref q_51, .ref q_52, .int 0, .ref q_53, .ref q_54, .ref q_55, .ref q_56])), (q_34, .inl (aC 0, 7, .inl (fun _ => 0))), (q_39, .inl (aC 0, 5, .inl SET0)), (q_54, .inl (aC 0, 61, .inl (fun _ => 0))), (q_55, .inl (aC 0, 61, .inl (fun _ => 0)))] H := hP
        have hD : va_D A [(q_31, .inr (12, [.ref q_34, .ref q_35, .ref q_36, .ref q_37, .ref q_38, .ref q_39, .int 0, .int 0, .int 0, .ref q_40, .ref q_41, .ref q_42, .ref q_43, .int 0, .int 0, .int 0, .ref q_44, .int 0, .int 0, .int 0, .ref q_45, .ref q_46, .ref q_47, .ref q_48, .ref q_49, .ref q_50, .ref q_51, .ref q_52, .int 0, .ref q_53, .ref q_54, .ref q_55, .ref q_56])), (q_34, .inl (aC 0, 7, .inl (fun _ => 0))), (q_39, .inl (aC 0, 5, .inl SET0)), (q_54, .inl (aC 0, 61, .inl (fun _ => 0))), (q_55, .inl (aC 0, 61, .inl (fun _ => 0)))] := hD
        clear hPc hDc hFc hz1 hk1 hP1 hD1 ht hvm
        refine lv_aload_n hx hb dL_law_594 rfl (lv_at hl 1 rfl) ?_
        refine lv_aload_n hx hb dL_law_595 rfl (lv_at hl 3 rfl) ?_
        refine lv_iload_n hx hb dL_law_596 rfl (lv_at hl 0 rfl) ?_
        refine lv_iconst (v := 1) hx hb dL_law_597 (by decide) ?_
        refine lv_iadd hx hb dL_law_598 ?_
        refine lv_topi (fun x_340 e_340 => ?_)
        have h9 : x_340 = 1 := by rw [e_340]; decide
        subst h9
        have h_341 : vp_in 1 5 := by first | assumption | (unfold vp_in; decide) | exact vp_in_nI (by omega) (by omega) | (subst_vars; first | (unfold vp_in; decide) | exact vp_in_nI (by omega) (by omega))
        refine va_sld hx hb hX hbl hbA hS h_341 dL_law_599 ?_
        refine lv_topi (fun x_342 e_342 => ?_)
        have h9 : x_342 = (xs 1) := by rw [e_342]; rfl
        subst h9
        refine lv_aload_n hx hb dL_law_600 rfl (lv_at hl 3 rfl) ?_
        refine lv_iload_n hx hb dL_law_601 rfl (lv_at hl 0 rfl) ?_
        refine lv_iconst (v := 2) hx hb dL_law_602 (by decide) ?_
        refine lv_iadd hx hb dL_law_603 ?_
        refine lv_topi (fun x_343 e_343 => ?_)
        have h9 : x_343 = 2 := by rw [e_343]; decide
        subst h9
        have h_344 : vp_in 2 5 := by first | assumption | (unfold vp_in; decide) | exact vp_in_nI (by omega) (by omega) | (subst_vars; first | (unfold vp_in; decide) | exact vp_in_nI (by omega) (by omega))
        refine va_sld hx hb hX hbl hbA hS h_344 dL_law_604 ?_
        refine lv_topi (fun x_345 e_345 => ?_)
        have h9 : x_345 = (xs 2) := by rw [e_345]; rfl
        subst h9
        refine lv_aload_n hx hb dL_law_605 rfl (lv_at hl 3 rfl) ?_
        refine lv_iload_n hx hb dL_law_606 rfl (lv_at hl 0 rfl) ?_
        refine lv_iconst (v := 3) hx hb dL_law_607 (by decide) ?_
        refine lv_iadd hx hb dL_law_608 ?_
        refine lv_topi (fun x_346 e_346 => ?_)
        have h9 : x_346 = 3 := by rw [e_346]; decide
        subst h9
        have h_347 : vp_in 3 5 := by first | assumption | (unfold vp_in; decide) | exact vp_in_nI (by omega) (by omega) | (subst_vars; first | (unfold vp_in; decide) | exact vp_in_nI (by omega) (by omega))
        refine va_sld hx hb hX hbl hbA hS h_347 dL_law_609 ?_
        refine lv_topi (fun x_348 e_348 => ?_)
        have h9 : x_348 = (xs 3) := by rw [e_348]; rfl
        subst h9
        refine lv_aload_n hx hb dL_law_610 rfl (lv_at hl 3 rfl) ?_
        refine lv_iload_n hx hb dL_law_611 rfl (lv_at hl 0 rfl) ?_
        refine lv_iconst (v := 4) hx hb dL_law_612 (by decide) ?_
        refine lv_iadd hx hb dL_law_613 ?_
        refine lv_topi (fun x_349 e_349 => ?_)
        have h9 : x_349 = 4 := by rw [e_349]; decide
        subst h9
        have h_350 : vp_in 4 5 := by first | assumption | (unfold vp_in; decide) | exact vp_in_nI (by omega) (by omega) | (subst_vars; first | (unfold vp_in; decide) | exact vp_in_nI (by omega) (by omega))
        refine va_sld hx hb hX hbl hbA hS h_350 dL_law_614 ?_
        refine lv_topi (fun x_351 e_351 => ?_)
        have h9 : x_351 = (xs 4) := by rw [e_351]; rfl
        subst h9
        refine lv_if_eq (tgt := 622) hx hb dL_law_615 (by decide) (fun c_352 => ?_) (fun c_352 => ?_)
        · exact absurd c_352 c_318
        · refine lv_iconst (v := 1) hx hb dL_law_618 (by decide) ?_
          refine lv_goto (tgt := 623) hx hb dL_law_619 (by decide) ?_
          have hPc := hP.sub (ws' := [(q_31, .inr (12, [.ref q_34, .ref q_35, .ref q_36, .ref q_37, .ref q_38, .ref q_39, .int 0, .int 0, .int 0, .ref q_40, .ref q_41, .ref q_42, .ref q_43, .int 0, .int 0, .int 0, .ref q_44, .int 0, .int 0, .int 0, .ref q_45, .ref q_46, .ref q_47, .ref q_48, .ref q_49, .ref q_50, .ref q_51, .ref q_52, .int 0, .ref q_53, .ref q_54, .ref q_55, .ref q_56])), (q_39, .inl (aC 0, 5, .inl SET0)), (q_54, .inl (aC 0, 61, .inl (fun _ => 0))), (q_55, .inl (aC 0, 61, .inl (fun _ => 0))), (q_34, .inl (aC 0, 7, .inl (fun _ => 0)))]) [0, 2, 3, 4, 1] rfl
          have hDc := hD.sub (ws' := [(q_31, .inr (12, [.ref q_34, .ref q_35, .ref q_36, .ref q_37, .ref q_38, .ref q_39, .int 0, .int 0, .int 0, .ref q_40, .ref q_41, .ref q_42, .ref q_43, .int 0, .int 0, .int 0, .ref q_44, .int 0, .int 0, .int 0, .ref q_45, .ref q_46, .ref q_47, .ref q_48, .ref q_49, .ref q_50, .ref q_51, .ref q_52, .int 0, .ref q_53, .ref q_54, .ref q_55, .ref q_56])), (q_39, .inl (aC 0, 5, .inl SET0)), (q_54, .inl (aC 0, 61, .inl (fun _ => 0))), (q_55, .inl (aC 0, 61, .inl (fun _ => 0))), (q_34, .inl (aC 0, 7, .inl (fun _ => 0)))]) [0, 2, 3, 4, 1] (by decide) rfl
          have hFc := va_free (wc := [(q_31, .inr (12, [.ref q_34, .ref q_35, .ref q_36, .ref q_37, .ref q_38, .ref q_39, .int 0, .int 0, .int 0, .ref q_40, .ref q_41, .ref q_42, .ref q_43, .int 0, .int 0, .int 0, .ref q_44, .int 0, .int 0, .int 0, .ref q_45, .ref q_46, .ref q_47, .ref q_48, .ref q_49, .ref q_50, .ref q_51, .ref q_52, .int 0, .ref q_53, .ref q_54, .ref q_55, .ref q_56])), (q_39, .inl (aC 0, 5, .inl SET0)), (q_54, .inl (aC 0, 61, .inl (fun _ => 0))), (q_55, .inl (aC 0, 61, .inl (fun _ => 0))), (q_34, .inl (aC 0, 7, .inl (fun _ => 0)))]) hD hS hA [0, 2, 3, 4, 1] rfl
          refine va_calli (va_runV (As := [.int (xs 1), .int (xs 2), .int (xs 3), .int 1]) (rest := [.int x_339]) ⟨hx, hb, hml, hown, hts⟩ (c_X12_alike l dC dI aC H.size q_31 q_34 q_35 q_36 q_37 q_38 q_39 q_40 q_41 q_42 q_43 q_44 q_45 q_46 q_47 q_48 q_49 q_50 q_51 q_52 q_53 q_54 q_55 q_56 0 0 0 0 0 0 0 0 0 0 (fun _ => 0) SET0 (fun _ => 0) (fun _ => 0) (xs 1) (xs 2) (xs 3) 1 (rfl)) ⟨(callB_of 4 hts (gG kw_1018) rfl rfl rfl (hts _ (gw kw_13 rfl)) (hts _ (gw kw_1015 rfl)) (by decide +kernel) ⟨Nat.le_of_ble_eq_true rfl, Nat.le_of_ble_eq_true rfl⟩), (hts _ (gw kw_1016 rfl)), (hts _ (gw kw_1017 rfl))⟩ ⟨fun a U g mk q => by obtain ⟨q0, q1, qP, qK, qD, qN⟩ := q; exact ⟨q0, q1, qP, va_K.moved (u := U) (U := U.calling g mk a) (Vm.Alike.refl U.vm) qK, qD, NX.same (u := U) (U := U.calling g mk a) rfl qN⟩, va_recv hK hPc (ci := 12) (q0 := 0) rfl rfl, fun U hU hW => ⟨rfl, by rw [hU], by rw [hU]; exact hPc, va_K.moved hW.alike hK, hDc.weaken (fun _ _ _ _ => trivial), NX.warm hW hN⟩⟩ rfl rfl hl.1 rfl (lv_room (Nat.le_of_ble_eq_true rfl)) dL_law_623 ⟨Nat.le_of_ble_eq_true rfl, Nat.le_of_ble_eq_true rfl⟩) hS (fun q _ h => hFc q h) hFc (fun x_353 u t H1 locs ht hvm hw_353 hB hz1 hk1 hS => ?_)
          obtain ⟨hP1, hK1, hD1⟩ := hB
          rw [ht] at hP1
          clear hK1
          try dsimp only at hw_353
          obtain ⟨hP, hD⟩ := va_join (wr := []) (w1 := []) hP hD [0, 2, 3, 4, 1] [] rfl rfl (by decide) (by decide) hk1 hFc hP1 hD1
          generalize H1 = H at hP hS ⊢
          have hP : va_P (dC, dI) classes [] H := hP
          have hD : va_D A [] := hD
          clear hPc hDc hFc hz1 hk1 hP1 hD1 ht hvm
          refine lv_icmp_eq (tgt := 908) hx hb dL_law_626 (by decide) (fun c_354 => ?_) (fun c_354 => ?_)
          · obtain ⟨x_355, e_355⟩ : ∃ y : Int32, y = 0 + 5 := ⟨_, rfl⟩
            refine lv_iinc (v := x_355) (lv' := [(3, .int x_355), (2, .ref q_31), (1, .ref q_1), (0, .ref b)]) hx hb dL_law_908 hl (k := 0) rfl (by rw [e_355]; rfl) (by decide) rfl (fun ls hl => ?_)
            have h9 : x_355 = 5 := by rw [e_355]; decide
            subst h9
            refine lv_goto (tgt := 18) hx hb dL_law_911 (by decide) ?_
            refine lv_iload_n hx hb dL_law_18 rfl (lv_at hl 0 rfl) ?_
            refine lv_aload_n hx hb dL_law_19 rfl (lv_at hl 3 rfl) ?_
            refine va_slen hx hb hX hbl hbA hS dL_law_20 ?_
            refine lv_topi (fun x_356 e_356 => ?_)
            refine lv_iconst (v := 5) hx hb dL_law_21 (by decide) ?_
            refine lv_isub hx hb dL_law_22 ?_
            refine lv_topi (fun x_357 e_357 => ?_)
            refine lv_icmp_gt (tgt := 914) hx hb dL_law_23 (by decide) (fun c_358 => ?_) (fun c_358 => ?_)
            · refine lv_iconst (v := 1) hx hb dL_law_914 (by decide) ?_
              refine va_forget (fun q hq => by have := hS.2.2 q hq; rw [hAe] at this; exact this) ?_
              refine W.widen (k := 600000) (n := 7302250) (Nat.le_of_ble_eq_true rfl) (Nat.le_of_ble_eq_true rfl) ?_
              exact lw_ret hx hb hr hlocks dL_law_915
            · exact absurd (by rw [e_357, e_356]; decide) c_358
          · exact absurd (by rw [hw_339, hw_353]) c_354
    by_cases c_359 : x_62 = 17
    · refine lv_tableIn (tgt := 631) hx hb dL_law_32 (by rw [c_359]; decide) (by rw [c_359]; decide) (by rw [c_359]; rfl) (by decide) ?_
      have hP : va_P (dC, dI) classes [(q_1, .inr (11, [.ref q_5, .ref q_6, .ref q_7, .ref q_8, .ref q_9, .ref q_10, .ref q_11, .ref q_12, .ref q_13, .ref q_14, .ref q_15, .int 0, .int 0, .int 1])), (q_7, .inr (4, [.ref q_16, .ref q_17, .ref q_18, .ref q_19, .ref q_20, .int 0, .int 0, .int 0])), (q_14, .inl (aC 0, 7, .inl (fun _ => 0))), (q_31, .inr (12, [.ref q_34, .ref q_35, .ref q_36, .ref q_37, .ref q_38, .ref q_39, .int 0, .int 0, .int 0, .ref q_40, .ref q_41, .ref q_42, .ref q_43, .int 0, .int 0, .int 0, .ref q_44, .int 0, .int 0, .int 0, .ref q_45, .ref q_46, .ref q_47, .ref q_48, .ref q_49, .ref q_50, .ref q_51, .ref q_52, .int 0, .ref q_53, .ref q_54, .ref q_55, .ref q_56])), (q_34, .inl (aC 0, 7, .inl (fun _ => 0)))] H := hP.sub [0, 1, 21, 22, 23] rfl
      have hD : va_D A [(q_1, .inr (11, [.ref q_5, .ref q_6, .ref q_7, .ref q_8, .ref q_9, .ref q_10, .ref q_11, .ref q_12, .ref q_13, .ref q_14, .ref q_15, .int 0, .int 0, .int 1])), (q_7, .inr (4, [.ref q_16, .ref q_17, .ref q_18, .ref q_19, .ref q_20, .int 0, .int 0, .int 0])), (q_14, .inl (aC 0, 7, .inl (fun _ => 0))), (q_31, .inr (12, [.ref q_34, .ref q_35, .ref q_36, .ref q_37, .ref q_38, .ref q_39, .int 0, .int 0, .int 0, .ref q_40, .ref q_41, .ref q_42, .ref q_43, .int 0, .int 0, .int 0, .ref q_44, .int 0, .int 0, .int 0, .ref q_45, .ref q_46, .ref q_47, .ref q_48, .ref q_49, .ref q_50, .ref q_51, .ref q_52, .int 0, .ref q_53, .ref q_54, .ref q_55, .ref q_56])), (q_34, .inl (aC 0, 7, .inl (fun _ => 0)))] := hD.sub [0, 1, 21, 22, 23] (by decide) rfl
      refine lv_aload_n hx hb dL_law_631 rfl (lv_at hl 2 rfl) ?_
      have hPc := hP.sub (ws' := [(q_1, .inr (11, [.ref q_5, .ref q_6, .ref q_7, .ref q_8, .ref q_9, .ref q_10, .ref q_11, .ref q_12, .ref q_13, .ref q_14, .ref q_15, .int 0, .int 0, .int 1])), (q_7, .inr (4, [.ref q_16, .ref q_17, .ref q_18, .ref q_19, .ref q_20, .int 0, .int 0, .int 0])), (q_14, .inl (aC 0, 7, .inl (fun _ => 0)))]) [0, 1, 2] rfl
      have hDc := hD.sub (ws' := [(q_1, .inr (11, [.ref q_5, .ref q_6, .ref q_7, .ref q_8, .ref q_9, .ref q_10, .ref q_11, .ref q_12, .ref q_13, .ref q_14, .ref q_15, .int 0, .int 0, .int 1])), (q_7, .inr (4, [.ref q_16, .ref q_17, .ref q_18, .ref q_19, .ref q_20, .int 0, .int 0, .int 0])), (q_14, .inl (aC 0, 7, .inl (fun _ => 0)))]) [0, 1, 2] (by decide) rfl
      have hFc := va_free (wc := [(q_1, .inr (11, [.ref q_5, .ref q_6, .ref q_7, .ref q_8, .ref q_9, .ref q_10, .ref q_11, .ref q_12, .ref q_13, .ref q_14, .ref q_15, .int 0, .int 0, .int 1])), (q_7, .inr (4, [.ref q_16, .ref q_17, .ref q_18, .ref q_19, .ref q_20, .int 0, .int 0, .int 0])), (q_14, .inl (aC 0, 7, .inl (fun _ => 0)))]) hD hS hA [0, 1, 2] rfl
      refine va_calli (va_runV (As := []) (rest := []) ⟨hx, hb, hml, hown, hts⟩ (c_X11_fewest_r l dC dI aC H.size q_1 q_5 q_6 q_7 q_8 q_9 q_10 q_11 q_12 q_13 q_14 q_15 0 0 1 q_16 q_17 q_18 q_19 q_20 0 0 0 (fun _ => 0) (Or.inl rfl)) ⟨(callB_of 0 hts (gG kw_594) rfl rfl rfl (hts _ (gw kw_1 rfl)) (hts _ (gw kw_591 rfl)) (by decide +kernel) ⟨Nat.le_of_ble_eq_true rfl, Nat.le_of_ble_eq_true rfl⟩), (hts _ (gw kw_592 rfl)), (hts _ (gw kw_593 rfl))⟩ ⟨fun a U g mk q => by obtain ⟨q0, q1, qP, qK, qD, qN⟩ := q; exact ⟨q0, q1, qP, va_K.moved (u := U) (U := U.calling g mk a) (Vm.Alike.refl U.vm) qK, qD, NX.same (u := U) (U := U.calling g mk a) rfl qN⟩, va_recv hK hPc (ci := 11) (q0 := 0) rfl rfl, fun U hU hW => ⟨rfl, by rw [hU], by rw [hU]; exact hPc, va_K.moved hW.alike hK, hDc.weaken (fun _ _ _ _ => trivial), NX.warm hW hN⟩⟩ rfl rfl hl.1 rfl (lv_room (Nat.le_of_ble_eq_true rfl)) dL_law_632 ⟨Nat.le_of_ble_eq_true rfl, Nat.le_of_ble_eq_true rfl⟩) hS (fun q _ h => hFc q h) hFc (fun x_360 u t H1 locs ht hvm hw_360 hB hz1 hk1 hS => ?_)
      obtain ⟨hP1, hK1, hD1⟩ := hB
      rw [ht] at hP1
      clear hK1
      try dsimp only at hw_360
      obtain ⟨hP, hD⟩ := va_join (wr := [(q_31, .inr (12, [.ref q_34, .ref q_35, .ref q_36, .ref q_37, .ref q_38, .ref q_39, .int 0, .int 0, .int 0, .ref q_40, .ref q_41, .ref q_42, .ref q_43, .int 0, .int 0, .int 0, .ref q_44, .int 0, .int 0, .int 0, .ref q_45, .ref q_46, .ref q_47, .ref q_48, .ref q_49, .ref q_50, .ref q_51, .ref q_52, .int 0, .ref q_53, .ref q_54, .ref q_55, .ref q_56])), (q_34, .inl (aC 0, 7, .inl (fun _ => 0)))]) (w1 := []) hP hD [0, 1, 2] [3, 4] rfl rfl (by decide) (by decide) hk1 hFc hP1 hD1
      generalize H1 = H at hP hS ⊢
      have hP : va_P (dC, dI) classes [(q_31, .inr (12, [.ref q_34, .ref q_35, .ref q_36, .ref q_37, .ref q_38, .ref q_39, .int 0, .int 0, .int 0, .ref q_40, .ref q_41, .ref q_42, .ref q_43, .int 0, .int 0, .int 0, .ref q_44, .int 0, .int 0, .int 0, .ref q_45, .ref q_46, .ref q_47, .ref q_48, .ref q_49, .ref q_50, .ref q_51, .ref q_52, .int 0, .ref q_53, .ref q_54, .ref q_55, .ref q_56])), (q_34, .inl (aC 0, 7, .inl (fun _ => 0)))] H := hP
      have hD : va_D A [(q_31, .inr (12, [.ref q_34, .ref q_35, .ref q_36, .ref q_37, .ref q_38, .ref q_39, .int 0, .int 0, .int 0, .ref q_40, .ref q_41, .ref q_42, .ref q_43, .int 0, .int 0, .int 0, .ref q_44, .int 0, .int 0, .int 0, .ref q_45, .ref q_46, .ref q_47, .ref q_48, .ref q_49, .ref q_50, .ref q_51, .ref q_52, .int 0, .ref q_53, .ref q_54, .ref q_55, .ref q_56])), (q_34, .inl (aC 0, 7, .inl (fun _ => 0)))] := hD
      clear hPc hDc hFc hz1 hk1 hP1 hD1 ht hvm
      refine lv_aload_n hx hb dL_law_635 rfl (lv_at hl 1 rfl) ?_
      have hPc := hP.sub (ws' := [(q_31, .inr (12, [.ref q_34, .ref q_35, .ref q_36, .ref q_37, .ref q_38, .ref q_39, .int 0, .int 0, .int 0, .ref q_40, .ref q_41, .ref q_42, .ref q_43, .int 0, .int 0, .int 0, .ref q_44, .int 0, .int 0, .int 0, .ref q_45, .ref q_46, .ref q_47, .ref q_48, .ref q_49, .ref q_50, .ref q_51, .ref q_52, .int 0, .ref q_53, .ref q_54, .ref q_55, .ref q_56])), (q_34, .inl (aC 0, 7, .inl (fun _ => 0)))]) [0, 1] rfl
      have hDc := hD.sub (ws' := [(q_31, .inr (12, [.ref q_34, .ref q_35, .ref q_36, .ref q_37, .ref q_38, .ref q_39, .int 0, .int 0, .int 0, .ref q_40, .ref q_41, .ref q_42, .ref q_43, .int 0, .int 0, .int 0, .ref q_44, .int 0, .int 0, .int 0, .ref q_45, .ref q_46, .ref q_47, .ref q_48, .ref q_49, .ref q_50, .ref q_51, .ref q_52, .int 0, .ref q_53, .ref q_54, .ref q_55, .ref q_56])), (q_34, .inl (aC 0, 7, .inl (fun _ => 0)))]) [0, 1] (by decide) rfl
      have hFc := va_free (wc := [(q_31, .inr (12, [.ref q_34, .ref q_35, .ref q_36, .ref q_37, .ref q_38, .ref q_39, .int 0, .int 0, .int 0, .ref q_40, .ref q_41, .ref q_42, .ref q_43, .int 0, .int 0, .int 0, .ref q_44, .int 0, .int 0, .int 0, .ref q_45, .ref q_46, .ref q_47, .ref q_48, .ref q_49, .ref q_50, .ref q_51, .ref q_52, .int 0, .ref q_53, .ref q_54, .ref q_55, .ref q_56])), (q_34, .inl (aC 0, 7, .inl (fun _ => 0)))]) hD hS hA [0, 1] rfl
      refine va_calli (va_runV (As := []) (rest := [.int x_360]) ⟨hx, hb, hml, hown, hts⟩ (c_X12_fewest_r l dC dI aC H.size q_31 q_34 q_35 q_36 q_37 q_38 q_39 q_40 q_41 q_42 q_43 q_44 q_45 q_46 q_47 q_48 q_49 q_50 q_51 q_52 q_53 q_54 q_55 q_56 0 0 0 0 0 0 0 0 0 0 (fun _ => 0) (Or.inl rfl)) ⟨(callB_of 0 hts (gG kw_1038) rfl rfl rfl (hts _ (gw kw_13 rfl)) (hts _ (gw kw_1035 rfl)) (by decide +kernel) ⟨Nat.le_of_ble_eq_true rfl, Nat.le_of_ble_eq_true rfl⟩), (hts _ (gw kw_1036 rfl)), (hts _ (gw kw_1037 rfl))⟩ ⟨fun a U g mk q => by obtain ⟨q0, q1, qP, qK, qD, qN⟩ := q; exact ⟨q0, q1, qP, va_K.moved (u := U) (U := U.calling g mk a) (Vm.Alike.refl U.vm) qK, qD, NX.same (u := U) (U := U.calling g mk a) rfl qN⟩, va_recv hK hPc (ci := 12) (q0 := 0) rfl rfl, fun U hU hW => ⟨rfl, by rw [hU], by rw [hU]; exact hPc, va_K.moved hW.alike hK, hDc.weaken (fun _ _ _ _ => trivial), NX.warm hW hN⟩⟩ rfl rfl hl.1 rfl (lv_room (Nat.le_of_ble_eq_true rfl)) dL_law_636 ⟨Nat.le_of_ble_eq_true rfl, Nat.le_of_ble_eq_true rfl⟩) hS (fun q _ h => hFc q h) hFc (fun x_361 u t H1 locs ht hvm hw_361 hB hz1 hk1 hS => ?_)
      obtain ⟨hP1, hK1, hD1⟩ := hB
      rw [ht] at hP1
      clear hK1
      try dsimp only at hw_361
      obtain ⟨hP, hD⟩ := va_join (wr := []) (w1 := []) hP hD [0, 1] [] rfl rfl (by decide) (by decide) hk1 hFc hP1 hD1
      generalize H1 = H at hP hS ⊢
      have hP : va_P (dC, dI) classes [] H := hP
      have hD : va_D A [] := hD
      clear hPc hDc hFc hz1 hk1 hP1 hD1 ht hvm
      refine lv_icmp_eq (tgt := 908) hx hb dL_law_639 (by decide) (fun c_362 => ?_) (fun c_362 => ?_)
      · obtain ⟨x_363, e_363⟩ : ∃ y : Int32, y = 0 + 5 := ⟨_, rfl⟩
        refine lv_iinc (v := x_363) (lv' := [(3, .int x_363), (2, .ref q_31), (1, .ref q_1), (0, .ref b)]) hx hb dL_law_908 hl (k := 0) rfl (by rw [e_363]; rfl) (by decide) rfl (fun ls hl => ?_)
        have h9 : x_363 = 5 := by rw [e_363]; decide
        subst h9
        refine lv_goto (tgt := 18) hx hb dL_law_911 (by decide) ?_
        refine lv_iload_n hx hb dL_law_18 rfl (lv_at hl 0 rfl) ?_
        refine lv_aload_n hx hb dL_law_19 rfl (lv_at hl 3 rfl) ?_
        refine va_slen hx hb hX hbl hbA hS dL_law_20 ?_
        refine lv_topi (fun x_364 e_364 => ?_)
        refine lv_iconst (v := 5) hx hb dL_law_21 (by decide) ?_
        refine lv_isub hx hb dL_law_22 ?_
        refine lv_topi (fun x_365 e_365 => ?_)
        refine lv_icmp_gt (tgt := 914) hx hb dL_law_23 (by decide) (fun c_366 => ?_) (fun c_366 => ?_)
        · refine lv_iconst (v := 1) hx hb dL_law_914 (by decide) ?_
          refine va_forget (fun q hq => by have := hS.2.2 q hq; rw [hAe] at this; exact this) ?_
          refine W.widen (k := 600000) (n := 7302250) (Nat.le_of_ble_eq_true rfl) (Nat.le_of_ble_eq_true rfl) ?_
          exact lw_ret hx hb hr hlocks dL_law_915
        · exact absurd (by rw [e_365, e_364]; decide) c_366
      · exact absurd (by rw [hw_360, hw_361]) c_362
    by_cases c_367 : x_62 = 18
    · refine lv_tableIn (tgt := 644) hx hb dL_law_32 (by rw [c_367]; decide) (by rw [c_367]; decide) (by rw [c_367]; rfl) (by decide) ?_
      have hP : va_P (dC, dI) classes [(q_1, .inr (11, [.ref q_5, .ref q_6, .ref q_7, .ref q_8, .ref q_9, .ref q_10, .ref q_11, .ref q_12, .ref q_13, .ref q_14, .ref q_15, .int 0, .int 0, .int 1])), (q_7, .inr (4, [.ref q_16, .ref q_17, .ref q_18, .ref q_19, .ref q_20, .int 0, .int 0, .int 0])), (q_14, .inl (aC 0, 7, .inl (fun _ => 0))), (q_31, .inr (12, [.ref q_34, .ref q_35, .ref q_36, .ref q_37, .ref q_38, .ref q_39, .int 0, .int 0, .int 0, .ref q_40, .ref q_41, .ref q_42, .ref q_43, .int 0, .int 0, .int 0, .ref q_44, .int 0, .int 0, .int 0, .ref q_45, .ref q_46, .ref q_47, .ref q_48, .ref q_49, .ref q_50, .ref q_51, .ref q_52, .int 0, .ref q_53, .ref q_54, .ref q_55, .ref q_56])), (q_34, .inl (aC 0, 7, .inl (fun _ => 0)))] H := hP.sub [0, 1, 21, 22, 23] rfl
      have hD : va_D A [(q_1, .inr (11, [.ref q_5, .ref q_6, .ref q_7, .ref q_8, .ref q_9, .ref q_10, .ref q_11, .ref q_12, .ref q_13, .ref q_14, .ref q_15, .int 0, .int 0, .int 1])), (q_7, .inr (4, [.ref q_16, .ref q_17, .ref q_18, .ref q_19, .ref q_20, .int 0, .int 0, .int 0])), (q_14, .inl (aC 0, 7, .inl (fun _ => 0))), (q_31, .inr (12, [.ref q_34, .ref q_35, .ref q_36, .ref q_37, .ref q_38, .ref q_39, .int 0, .int 0, .int 0, .ref q_40, .ref q_41, .ref q_42, .ref q_43, .int 0, .int 0, .int 0, .ref q_44, .int 0, .int 0, .int 0, .ref q_45, .ref q_46, .ref q_47, .ref q_48, .ref q_49, .ref q_50, .ref q_51, .ref q_52, .int 0, .ref q_53, .ref q_54, .ref q_55, .ref q_56])), (q_34, .inl (aC 0, 7, .inl (fun _ => 0)))] := hD.sub [0, 1, 21, 22, 23] (by decide) rfl
      refine lv_aload_n hx hb dL_law_644 rfl (lv_at hl 2 rfl) ?_
      refine lv_aload_n hx hb dL_law_645 rfl (lv_at hl 3 rfl) ?_
      refine lv_iload_n hx hb dL_law_646 rfl (lv_at hl 0 rfl) ?_
      refine lv_iconst (v := 1) hx hb dL_law_647 (by decide) ?_
      refine lv_iadd hx hb dL_law_648 ?_
      refine lv_topi (fun x_368 e_368 => ?_)
      have h9 : x_368 = 1 := by rw [e_368]; decide
      subst h9
      have h_369 : vp_in 1 5 := by first | assumption | (unfold vp_in; decide) | exact vp_in_nI (by omega) (by omega) | (subst_vars; first | (unfold vp_in; decide) | exact vp_in_nI (by omega) (by omega))
      refine va_sld hx hb hX hbl hbA hS h_369 dL_law_649 ?_
      refine lv_topi (fun x_370 e_370 => ?_)
      have h9 : x_370 = (xs 1) := by rw [e_370]; rfl
      subst h9
      refine lv_aload_n hx hb dL_law_650 rfl (lv_at hl 3 rfl) ?_
      refine lv_iload_n hx hb dL_law_651 rfl (lv_at hl 0 rfl) ?_
      refine lv_iconst (v := 2) hx hb dL_law_652 (by decide) ?_
      refine lv_iadd hx hb dL_law_653 ?_
      refine lv_topi (fun x_371 e_371 => ?_)
      have h9 : x_371 = 2 := by rw [e_371]; decide
      subst h9
      have h_372 : vp_in 2 5 := by first | assumption | (unfold vp_in; decide) | exact vp_in_nI (by omega) (by omega) | (subst_vars; first | (unfold vp_in; decide) | exact vp_in_nI (by omega) (by omega))
      refine va_sld hx hb hX hbl hbA hS h_372 dL_law_654 ?_
      refine lv_topi (fun x_373 e_373 => ?_)
      have h9 : x_373 = (xs 2) := by rw [e_373]; rfl
      subst h9
      refine lv_aload_n hx hb dL_law_655 rfl (lv_at hl 3 rfl) ?_
      refine lv_iload_n hx hb dL_law_656 rfl (lv_at hl 0 rfl) ?_
      refine lv_iconst (v := 3) hx hb dL_law_657 (by decide) ?_
      refine lv_iadd hx hb dL_law_658 ?_
      refine lv_topi (fun x_374 e_374 => ?_)
      have h9 : x_374 = 3 := by rw [e_374]; decide
      subst h9
      have h_375 : vp_in 3 5 := by first | assumption | (unfold vp_in; decide) | exact vp_in_nI (by omega) (by omega) | (subst_vars; first | (unfold vp_in; decide) | exact vp_in_nI (by omega) (by omega))
      refine va_sld hx hb hX hbl hbA hS h_375 dL_law_659 ?_
      refine lv_topi (fun x_376 e_376 => ?_)
      have h9 : x_376 = (xs 3) := by rw [e_376]; rfl
      subst h9
      have hPc := hP.sub (ws' := [(q_1, .inr (11, [.ref q_5, .ref q_6, .ref q_7, .ref q_8, .ref q_9, .ref q_10, .ref q_11, .ref q_12, .ref q_13, .ref q_14, .ref q_15, .int 0, .int 0, .int 1])), (q_7, .inr (4, [.ref q_16, .ref q_17, .ref q_18, .ref q_19, .ref q_20, .int 0, .int 0, .int 0])), (q_14, .inl (aC 0, 7, .inl (fun _ => 0)))]) [0, 1, 2] rfl
      have hDc := hD.sub (ws' := [(q_1, .inr (11, [.ref q_5, .ref q_6, .ref q_7, .ref q_8, .ref q_9, .ref q_10, .ref q_11, .ref q_12, .ref q_13, .ref q_14, .ref q_15, .int 0, .int 0, .int 1])), (q_7, .inr (4, [.ref q_16, .ref q_17, .ref q_18, .ref q_19, .ref q_20, .int 0, .int 0, .int 0])), (q_14, .inl (aC 0, 7, .inl (fun _ => 0)))]) [0, 1, 2] (by decide) rfl
      have hFc := va_free (wc := [(q_1, .inr (11, [.ref q_5, .ref q_6, .ref q_7, .ref q_8, .ref q_9, .ref q_10, .ref q_11, .ref q_12, .ref q_13, .ref q_14, .ref q_15, .int 0, .int 0, .int 1])), (q_7, .inr (4, [.ref q_16, .ref q_17, .ref q_18, .ref q_19, .ref q_20, .int 0, .int 0, .int 0])), (q_14, .inl (aC 0, 7, .inl (fun _ => 0)))]) hD hS hA [0, 1, 2] rfl
      refine va_calli (va_runV (As := [.int (xs 1), .int (xs 2), .int (xs 3)]) (rest := []) ⟨hx, hb, hml, hown, hts⟩ (c_X11_byLaw_r l dC dI aC H.size q_1 q_5 q_6 q_7 q_8 q_9 q_10 q_11 q_12 q_13 q_14 q_15 0 0 1 q_16 q_17 q_18 q_19 q_20 0 0 0 (fun _ => 0) (xs 1) (xs 2) (xs 3) tG (no0 _)) ⟨(callB_of 3 hts (gG kw_604) rfl rfl rfl (hts _ (gw kw_1 rfl)) (hts _ (gw kw_601 rfl)) (by decide +kernel) ⟨Nat.le_of_ble_eq_true rfl, Nat.le_of_ble_eq_true rfl⟩), (hts _ (gw kw_602 rfl)), (hts _ (gw kw_603 rfl))⟩ ⟨fun a U g mk q => by obtain ⟨q0, q1, qP, qK, qD, qN, z0, z1⟩ := q; exact ⟨q0, q1, qP, va_K.moved (u := U) (U := U.calling g mk a) (Vm.Alike.refl U.vm) qK, qD, NX.same (u := U) (U := U.calling g mk a) rfl qN, va_Z.moved (u := U) (U := U.calling g mk a) (Vm.Alike.refl U.vm) z0, va_T.moved (u := U) (U := U.calling g mk a) (Vm.Alike.refl U.vm) z1⟩, va_recv hK hPc (ci := 11) (q0 := 0) rfl rfl, fun U hU hW => ⟨rfl, by rw [hU], by rw [hU]; exact hPc, va_K.moved hW.alike hK, hDc.weaken (fun _ _ _ _ => trivial), NX.warm hW hN, by rw [hU]; exact va_Z.moved hW.alike (va_Z.narrow (va_Z.kept hZG hS.2.1) hFc), by rw [hU]; exact va_T.moved hW.alike (va_T.narrow (va_T.kept hTG hS.2.1) hFc)⟩⟩ rfl rfl hl.1 rfl (lv_room (Nat.le_of_ble_eq_true rfl)) dL_law_660 ⟨Nat.le_of_ble_eq_true rfl, Nat.le_of_ble_eq_true rfl⟩) hS (fun q _ h => hFc q h) hFc (fun x_377 u t H1 locs ht hvm hw_377 hB hz1 hk1 hS => ?_)
      obtain ⟨hP1, hK1, hD1⟩ := hB
      rw [ht] at hP1
      clear hK1
      try dsimp only at hw_377
      obtain ⟨hP, hD⟩ := va_join (wr := [(q_31, .inr (12, [.ref q_34, .ref q_35, .ref q_36, .ref q_37, .ref q_38, .ref q_39, .int 0, .int 0, .int 0, .ref q_40, .ref q_41, .ref q_42, .ref q_43, .int 0, .int 0, .int 0, .ref q_44, .int 0, .int 0, .int 0, .ref q_45, .ref q_46, .ref q_47, .ref q_48, .ref q_49, .ref q_50, .ref q_51, .ref q_52, .int 0, .ref q_53, .ref q_54, .ref q_55, .ref q_56])), (q_34, .inl (aC 0, 7, .inl (fun _ => 0)))]) (w1 := []) hP hD [0, 1, 2] [3, 4] rfl rfl (by decide) (by decide) hk1 hFc hP1 hD1
      generalize H1 = H at hP hS ⊢
      have hP : va_P (dC, dI) classes [(q_31, .inr (12, [.ref q_34, .ref q_35, .ref q_36, .ref q_37, .ref q_38, .ref q_39, .int 0, .int 0, .int 0, .ref q_40, .ref q_41, .ref q_42, .ref q_43, .int 0, .int 0, .int 0, .ref q_44, .int 0, .int 0, .int 0, .ref q_45, .ref q_46, .ref q_47, .ref q_48, .ref q_49, .ref q_50, .ref q_51, .ref q_52, .int 0, .ref q_53, .ref q_54, .ref q_55, .ref q_56])), (q_34, .inl (aC 0, 7, .inl (fun _ => 0)))] H := hP
      have hD : va_D A [(q_31, .inr (12, [.ref q_34, .ref q_35, .ref q_36, .ref q_37, .ref q_38, .ref q_39, .int 0, .int 0, .int 0, .ref q_40, .ref q_41, .ref q_42, .ref q_43, .int 0, .int 0, .int 0, .ref q_44, .int 0, .int 0, .int 0, .ref q_45, .ref q_46, .ref q_47, .ref q_48, .ref q_49, .ref q_50, .ref q_51, .ref q_52, .int 0, .ref q_53, .ref q_54, .ref q_55, .ref q_56])), (q_34, .inl (aC 0, 7, .inl (fun _ => 0)))] := hD
      clear hPc hDc hFc hz1 hk1 hP1 hD1 ht hvm
      refine lv_aload_n hx hb dL_law_663 rfl (lv_at hl 1 rfl) ?_
      refine lv_aload_n hx hb dL_law_664 rfl (lv_at hl 3 rfl) ?_
      refine lv_iload_n hx hb dL_law_665 rfl (lv_at hl 0 rfl) ?_
      refine lv_iconst (v := 1) hx hb dL_law_666 (by decide) ?_
      refine lv_iadd hx hb dL_law_667 ?_
      refine lv_topi (fun x_378 e_378 => ?_)
      have h9 : x_378 = 1 := by rw [e_378]; decide
      subst h9
      have h_379 : vp_in 1 5 := by first | assumption | (unfold vp_in; decide) | exact vp_in_nI (by omega) (by omega) | (subst_vars; first | (unfold vp_in; decide) | exact vp_in_nI (by omega) (by omega))
      refine va_sld hx hb hX hbl hbA hS h_379 dL_law_668 ?_
      refine lv_topi (fun x_380 e_380 => ?_)
      have h9 : x_380 = (xs 1) := by rw [e_380]; rfl
      subst h9
      refine lv_aload_n hx hb dL_law_669 rfl (lv_at hl 3 rfl) ?_
      refine lv_iload_n hx hb dL_law_670 rfl (lv_at hl 0 rfl) ?_
      refine lv_iconst (v := 2) hx hb dL_law_671 (by decide) ?_
      refine lv_iadd hx hb dL_law_672 ?_
      refine lv_topi (fun x_381 e_381 => ?_)
      have h9 : x_381 = 2 := by rw [e_381]; decide
      subst h9
      have h_382 : vp_in 2 5 := by first | assumption | (unfold vp_in; decide) | exact vp_in_nI (by omega) (by omega) | (subst_vars; first | (unfold vp_in; decide) | exact vp_in_nI (by omega) (by omega))
      refine va_sld hx hb hX hbl hbA hS h_382 dL_law_673 ?_
      refine lv_topi (fun x_383 e_383 => ?_)
      have h9 : x_383 = (xs 2) := by rw [e_383]; rfl
      subst h9
      refine lv_aload_n hx hb dL_law_674 rfl (lv_at hl 3 rfl) ?_
      refine lv_iload_n hx hb dL_law_675 rfl (lv_at hl 0 rfl) ?_
      refine lv_iconst (v := 3) hx hb dL_law_676 (by decide) ?_
      refine lv_iadd hx hb dL_law_677 ?_
      refine lv_topi (fun x_384 e_384 => ?_)
      have h9 : x_384 = 3 := by rw [e_384]; decide
      subst h9
      have h_385 : vp_in 3 5 := by first | assumption | (unfold vp_in; decide) | exact vp_in_nI (by omega) (by omega) | (subst_vars; first | (unfold vp_in; decide) | exact vp_in_nI (by omega) (by omega))
      refine va_sld hx hb hX hbl hbA hS h_385 dL_law_678 ?_
      refine lv_topi (fun x_386 e_386 => ?_)
      have h9 : x_386 = (xs 3) := by rw [e_386]; rfl
      subst h9
      have hPc := hP.sub (ws' := [(q_31, .inr (12, [.ref q_34, .ref q_35, .ref q_36, .ref q_37, .ref q_38, .ref q_39, .int 0, .int 0, .int 0, .ref q_40, .ref q_41, .ref q_42, .ref q_43, .int 0, .int 0, .int 0, .ref q_44, .int 0, .int 0, .int 0, .ref q_45, .ref q_46, .ref q_47, .ref q_48, .ref q_49, .ref q_50, .ref q_51, .ref q_52, .int 0, .ref q_53, .ref q_54, .ref q_55, .ref q_56])), (q_34, .inl (aC 0, 7, .inl (fun _ => 0)))]) [0, 1] rfl
      have hDc := hD.sub (ws' := [(q_31, .inr (12, [.ref q_34, .ref q_35, .ref q_36, .ref q_37, .ref q_38, .ref q_39, .int 0, .int 0, .int 0, .ref q_40, .ref q_41, .ref q_42, .ref q_43, .int 0, .int 0, .int 0, .ref q_44, .int 0, .int 0, .int 0, .ref q_45, .ref q_46, .ref q_47, .ref q_48, .ref q_49, .ref q_50, .ref q_51, .ref q_52, .int 0, .ref q_53, .ref q_54, .ref q_55, .ref q_56])), (q_34, .inl (aC 0, 7, .inl (fun _ => 0)))]) [0, 1] (by decide) rfl
      have hFc := va_free (wc := [(q_31, .inr (12, [.ref q_34, .ref q_35, .ref q_36, .ref q_37, .ref q_38, .ref q_39, .int 0, .int 0, .int 0, .ref q_40, .ref q_41, .ref q_42, .ref q_43, .int 0, .int 0, .int 0, .ref q_44, .int 0, .int 0, .int 0, .ref q_45, .ref q_46, .ref q_47, .ref q_48, .ref q_49, .ref q_50, .ref q_51, .ref q_52, .int 0, .ref q_53, .ref q_54, .ref q_55, .ref q_56])), (q_34, .inl (aC 0, 7, .inl (fun _ => 0)))]) hD hS hA [0, 1] rfl
      refine va_calli (va_runV (As := [.int (xs 1), .int (xs 2), .int (xs 3)]) (rest := [.int x_377]) ⟨hx, hb, hml, hown, hts⟩ (c_X12_byLaw_r l dC dI aC H.size q_31 q_34 q_35 q_36 q_37 q_38 q_39 q_40 q_41 q_42 q_43 q_44 q_45 q_46 q_47 q_48 q_49 q_50 q_51 q_52 q_53 q_54 q_55 q_56 0 0 0 0 0 0 0 0 0 0 (fun _ => 0) (xs 1) (xs 2) (xs 3) (no0 _)) ⟨(callB_of 3 hts (gG kw_1042) rfl rfl rfl (hts _ (gw kw_13 rfl)) (hts _ (gw kw_1039 rfl)) (by decide +kernel) ⟨Nat.le_of_ble_eq_true rfl, Nat.le_of_ble_eq_true rfl⟩), (hts _ (gw kw_1040 rfl)), (hts _ (gw kw_1041 rfl))⟩ ⟨fun a U g mk q => by obtain ⟨q0, q1, qP, qK, qD, qN⟩ := q; exact ⟨q0, q1, qP, va_K.moved (u := U) (U := U.calling g mk a) (Vm.Alike.refl U.vm) qK, qD, NX.same (u := U) (U := U.calling g mk a) rfl qN⟩, va_recv hK hPc (ci := 12) (q0 := 0) rfl rfl, fun U hU hW => ⟨rfl, by rw [hU], by rw [hU]; exact hPc, va_K.moved hW.alike hK, hDc.weaken (fun _ _ _ _ => trivial), NX.warm hW hN⟩⟩ rfl rfl hl.1 rfl (lv_room (Nat.le_of_ble_eq_true rfl)) dL_law_679 ⟨Nat.le_of_ble_eq_true rfl, Nat.le_of_ble_eq_true rfl⟩) hS (fun q _ h => hFc q h) hFc (fun x_387 u t H1 locs ht hvm hw_387 hB hz1 hk1 hS => ?_)
      obtain ⟨hP1, hK1, hD1⟩ := hB
      rw [ht] at hP1
      clear hK1
      try dsimp only at hw_387
      obtain ⟨hP, hD⟩ := va_join (wr := []) (w1 := []) hP hD [0, 1] [] rfl rfl (by decide) (by decide) hk1 hFc hP1 hD1
      generalize H1 = H at hP hS ⊢
      have hP : va_P (dC, dI) classes [] H := hP
      have hD : va_D A [] := hD
      clear hPc hDc hFc hz1 hk1 hP1 hD1 ht hvm
      refine lv_icmp_eq (tgt := 908) hx hb dL_law_682 (by decide) (fun c_388 => ?_) (fun c_388 => ?_)
      · obtain ⟨x_389, e_389⟩ : ∃ y : Int32, y = 0 + 5 := ⟨_, rfl⟩
        refine lv_iinc (v := x_389) (lv' := [(3, .int x_389), (2, .ref q_31), (1, .ref q_1), (0, .ref b)]) hx hb dL_law_908 hl (k := 0) rfl (by rw [e_389]; rfl) (by decide) rfl (fun ls hl => ?_)
        have h9 : x_389 = 5 := by rw [e_389]; decide
        subst h9
        refine lv_goto (tgt := 18) hx hb dL_law_911 (by decide) ?_
        refine lv_iload_n hx hb dL_law_18 rfl (lv_at hl 0 rfl) ?_
        refine lv_aload_n hx hb dL_law_19 rfl (lv_at hl 3 rfl) ?_
        refine va_slen hx hb hX hbl hbA hS dL_law_20 ?_
        refine lv_topi (fun x_390 e_390 => ?_)
        refine lv_iconst (v := 5) hx hb dL_law_21 (by decide) ?_
        refine lv_isub hx hb dL_law_22 ?_
        refine lv_topi (fun x_391 e_391 => ?_)
        refine lv_icmp_gt (tgt := 914) hx hb dL_law_23 (by decide) (fun c_392 => ?_) (fun c_392 => ?_)
        · refine lv_iconst (v := 1) hx hb dL_law_914 (by decide) ?_
          refine va_forget (fun q hq => by have := hS.2.2 q hq; rw [hAe] at this; exact this) ?_
          refine W.widen (k := 600000) (n := 7302250) (Nat.le_of_ble_eq_true rfl) (Nat.le_of_ble_eq_true rfl) ?_
          exact lw_ret hx hb hr hlocks dL_law_915
        · exact absurd (by rw [e_391, e_390]; decide) c_392
      · exact absurd (by rw [hw_377, hw_387]) c_388
    by_cases c_393 : x_62 = 19
    · refine lv_tableIn (tgt := 687) hx hb dL_law_32 (by rw [c_393]; decide) (by rw [c_393]; decide) (by rw [c_393]; rfl) (by decide) ?_
      have hP : va_P (dC, dI) classes [(q_1, .inr (11, [.ref q_5, .ref q_6, .ref q_7, .ref q_8, .ref q_9, .ref q_10, .ref q_11, .ref q_12, .ref q_13, .ref q_14, .ref q_15, .int 0, .int 0, .int 1])), (q_7, .inr (4, [.ref q_16, .ref q_17, .ref q_18, .ref q_19, .ref q_20, .int 0, .int 0, .int 0])), (q_31, .inr (12, [.ref q_34, .ref q_35, .ref q_36, .ref q_37, .ref q_38, .ref q_39, .int 0, .int 0, .int 0, .ref q_40, .ref q_41, .ref q_42, .ref q_43, .int 0, .int 0, .int 0, .ref q_44, .int 0, .int 0, .int 0, .ref q_45, .ref q_46, .ref q_47, .ref q_48, .ref q_49, .ref q_50, .ref q_51, .ref q_52, .int 0, .ref q_53, .ref q_54, .ref q_55, .ref q_56]))] H := hP.sub [0, 1, 22] rfl
      have hD : va_D A [(q_1, .inr (11, [.ref q_5, .ref q_6, .ref q_7, .ref q_8, .ref q_9, .ref q_10, .ref q_11, .ref q_12, .ref q_13, .ref q_14, .ref q_15, .int 0, .int 0, .int 1])), (q_7, .inr (4, [.ref q_16, .ref q_17, .ref q_18, .ref q_19, .ref q_20, .int 0, .int 0, .int 0])), (q_31, .inr (12, [.ref q_34, .ref q_35, .ref q_36, .ref q_37, .ref q_38, .ref q_39, .int 0, .int 0, .int 0, .ref q_40, .ref q_41, .ref q_42, .ref q_43, .int 0, .int 0, .int 0, .ref q_44, .int 0, .int 0, .int 0, .ref q_45, .ref q_46, .ref q_47, .ref q_48, .ref q_49, .ref q_50, .ref q_51, .ref q_52, .int 0, .ref q_53, .ref q_54, .ref q_55, .ref q_56]))] := hD.sub [0, 1, 22] (by decide) rfl
      refine lv_aload_n hx hb dL_law_687 rfl (lv_at hl 2 rfl) ?_
      have hPc := hP.sub (ws' := [(q_1, .inr (11, [.ref q_5, .ref q_6, .ref q_7, .ref q_8, .ref q_9, .ref q_10, .ref q_11, .ref q_12, .ref q_13, .ref q_14, .ref q_15, .int 0, .int 0, .int 1])), (q_7, .inr (4, [.ref q_16, .ref q_17, .ref q_18, .ref q_19, .ref q_20, .int 0, .int 0, .int 0]))]) [0, 1] rfl
      have hDc := hD.sub (ws' := [(q_1, .inr (11, [.ref q_5, .ref q_6, .ref q_7, .ref q_8, .ref q_9, .ref q_10, .ref q_11, .ref q_12, .ref q_13, .ref q_14, .ref q_15, .int 0, .int 0, .int 1])), (q_7, .inr (4, [.ref q_16, .ref q_17, .ref q_18, .ref q_19, .ref q_20, .int 0, .int 0, .int 0]))]) [0, 1] (by decide) rfl
      have hFc := va_free (wc := [(q_1, .inr (11, [.ref q_5, .ref q_6, .ref q_7, .ref q_8, .ref q_9, .ref q_10, .ref q_11, .ref q_12, .ref q_13, .ref q_14, .ref q_15, .int 0, .int 0, .int 1])), (q_7, .inr (4, [.ref q_16, .ref q_17, .ref q_18, .ref q_19, .ref q_20, .int 0, .int 0, .int 0]))]) hD hS hA [0, 1] rfl
      refine va_calli (va_runV (As := []) (rest := []) ⟨hx, hb, hml, hown, hts⟩ (c_X11_gains_r l dC dI aC H.size q_1 q_5 q_6 q_7 q_8 q_9 q_10 q_11 q_12 q_13 q_14 q_15 0 0 1 q_16 q_17 q_18 q_19 q_20 0 0 ) ⟨(callB_of 0 hts (gG kw_608) rfl rfl rfl (hts _ (gw kw_1 rfl)) (hts _ (gw kw_605 rfl)) (by decide +kernel) ⟨Nat.le_of_ble_eq_true rfl, Nat.le_of_ble_eq_true rfl⟩), (hts _ (gw kw_606 rfl)), (hts _ (gw kw_607 rfl))⟩ ⟨fun a U g mk q => by obtain ⟨q0, q1, qP, qK, qD, qN⟩ := q; exact ⟨q0, q1, qP, va_K.moved (u := U) (U := U.calling g mk a) (Vm.Alike.refl U.vm) qK, qD, NX.same (u := U) (U := U.calling g mk a) rfl qN⟩, va_recv hK hPc (ci := 11) (q0 := 0) rfl rfl, fun U hU hW => ⟨rfl, by rw [hU], by rw [hU]; exact hPc, va_K.moved hW.alike hK, hDc.weaken (fun _ _ _ _ => trivial), NX.warm hW hN⟩⟩ rfl rfl hl.1 rfl (lv_room (Nat.le_of_ble_eq_true rfl)) dL_law_688 ⟨Nat.le_of_ble_eq_true rfl, Nat.le_of_ble_eq_true rfl⟩) hS (fun q _ h => hFc q h) hFc (fun x_394 u t H1 locs ht hvm hw_394 hB hz1 hk1 hS => ?_)
      obtain ⟨hP1, hK1, hD1⟩ := hB
      rw [ht] at hP1
      clear hK1
      try dsimp only at hw_394
      obtain ⟨hP, hD⟩ := va_join (wr := [(q_31, .inr (12, [.ref q_34, .ref q_35, .ref q_36, .ref q_37, .ref q_38, .ref q_39, .int 0, .int 0, .int 0, .ref q_40, .ref q_41, .ref q_42, .ref q_43, .int 0, .int 0, .int 0, .ref q_44, .int 0, .int 0, .int 0, .ref q_45, .ref q_46, .ref q_47, .ref q_48, .ref q_49, .ref q_50, .ref q_51, .ref q_52, .int 0, .ref q_53, .ref q_54, .ref q_55, .ref q_56]))]) (w1 := []) hP hD [0, 1] [2] rfl rfl (by decide) (by decide) hk1 hFc hP1 hD1
      generalize H1 = H at hP hS ⊢
      have hP : va_P (dC, dI) classes [(q_31, .inr (12, [.ref q_34, .ref q_35, .ref q_36, .ref q_37, .ref q_38, .ref q_39, .int 0, .int 0, .int 0, .ref q_40, .ref q_41, .ref q_42, .ref q_43, .int 0, .int 0, .int 0, .ref q_44, .int 0, .int 0, .int 0, .ref q_45, .ref q_46, .ref q_47, .ref q_48, .ref q_49, .ref q_50, .ref q_51, .ref q_52, .int 0, .ref q_53, .ref q_54, .ref q_55, .ref q_56]))] H := hP
      have hD : va_D A [(q_31, .inr (12, [.ref q_34, .ref q_35, .ref q_36, .ref q_37, .ref q_38, .ref q_39, .int 0, .int 0, .int 0, .ref q_40, .ref q_41, .ref q_42, .ref q_43, .int 0, .int 0, .int 0, .ref q_44, .int 0, .int 0, .int 0, .ref q_45, .ref q_46, .ref q_47, .ref q_48, .ref q_49, .ref q_50, .ref q_51, .ref q_52, .int 0, .ref q_53, .ref q_54, .ref q_55, .ref q_56]))] := hD
      clear hPc hDc hFc hz1 hk1 hP1 hD1 ht hvm
      refine lv_aload_n hx hb dL_law_691 rfl (lv_at hl 1 rfl) ?_
      have hPc := hP.sub (ws' := [(q_31, .inr (12, [.ref q_34, .ref q_35, .ref q_36, .ref q_37, .ref q_38, .ref q_39, .int 0, .int 0, .int 0, .ref q_40, .ref q_41, .ref q_42, .ref q_43, .int 0, .int 0, .int 0, .ref q_44, .int 0, .int 0, .int 0, .ref q_45, .ref q_46, .ref q_47, .ref q_48, .ref q_49, .ref q_50, .ref q_51, .ref q_52, .int 0, .ref q_53, .ref q_54, .ref q_55, .ref q_56]))]) [0] rfl
      have hDc := hD.sub (ws' := [(q_31, .inr (12, [.ref q_34, .ref q_35, .ref q_36, .ref q_37, .ref q_38, .ref q_39, .int 0, .int 0, .int 0, .ref q_40, .ref q_41, .ref q_42, .ref q_43, .int 0, .int 0, .int 0, .ref q_44, .int 0, .int 0, .int 0, .ref q_45, .ref q_46, .ref q_47, .ref q_48, .ref q_49, .ref q_50, .ref q_51, .ref q_52, .int 0, .ref q_53, .ref q_54, .ref q_55, .ref q_56]))]) [0] (by decide) rfl
      have hFc := va_free (wc := [(q_31, .inr (12, [.ref q_34, .ref q_35, .ref q_36, .ref q_37, .ref q_38, .ref q_39, .int 0, .int 0, .int 0, .ref q_40, .ref q_41, .ref q_42, .ref q_43, .int 0, .int 0, .int 0, .ref q_44, .int 0, .int 0, .int 0, .ref q_45, .ref q_46, .ref q_47, .ref q_48, .ref q_49, .ref q_50, .ref q_51, .ref q_52, .int 0, .ref q_53, .ref q_54, .ref q_55, .ref q_56]))]) hD hS hA [0] rfl
      refine va_calli (va_runV (As := []) (rest := [.int x_394]) ⟨hx, hb, hml, hown, hts⟩ (c_X12_gains_r l dC dI aC H.size q_31 q_34 q_35 q_36 q_37 q_38 q_39 q_40 q_41 q_42 q_43 q_44 q_45 q_46 q_47 q_48 q_49 q_50 q_51 q_52 q_53 q_54 q_55 q_56 0 0 0 0 0 0 0 0 0 ) ⟨(callB_of 0 hts (gG kw_1046) rfl rfl rfl (hts _ (gw kw_13 rfl)) (hts _ (gw kw_1043 rfl)) (by decide +kernel) ⟨Nat.le_of_ble_eq_true rfl, Nat.le_of_ble_eq_true rfl⟩), (hts _ (gw kw_1044 rfl)), (hts _ (gw kw_1045 rfl))⟩ ⟨fun a U g mk q => by obtain ⟨q0, q1, qP, qK, qD, qN⟩ := q; exact ⟨q0, q1, qP, va_K.moved (u := U) (U := U.calling g mk a) (Vm.Alike.refl U.vm) qK, qD, NX.same (u := U) (U := U.calling g mk a) rfl qN⟩, va_recv hK hPc (ci := 12) (q0 := 0) rfl rfl, fun U hU hW => ⟨rfl, by rw [hU], by rw [hU]; exact hPc, va_K.moved hW.alike hK, hDc.weaken (fun _ _ _ _ => trivial), NX.warm hW hN⟩⟩ rfl rfl hl.1 rfl (lv_room (Nat.le_of_ble_eq_true rfl)) dL_law_692 ⟨Nat.le_of_ble_eq_true rfl, Nat.le_of_ble_eq_true rfl⟩) hS (fun q _ h => hFc q h) hFc (fun x_395 u t H1 locs ht hvm hw_395 hB hz1 hk1 hS => ?_)
      obtain ⟨hP1, hK1, hD1⟩ := hB
      rw [ht] at hP1
      clear hK1
      try dsimp only at hw_395
      obtain ⟨hP, hD⟩ := va_join (wr := []) (w1 := []) hP hD [0] [] rfl rfl (by decide) (by decide) hk1 hFc hP1 hD1
      generalize H1 = H at hP hS ⊢
      have hP : va_P (dC, dI) classes [] H := hP
      have hD : va_D A [] := hD
      clear hPc hDc hFc hz1 hk1 hP1 hD1 ht hvm
      refine lv_icmp_eq (tgt := 908) hx hb dL_law_695 (by decide) (fun c_396 => ?_) (fun c_396 => ?_)
      · obtain ⟨x_397, e_397⟩ : ∃ y : Int32, y = 0 + 5 := ⟨_, rfl⟩
        refine lv_iinc (v := x_397) (lv' := [(3, .int x_397), (2, .ref q_31), (1, .ref q_1), (0, .ref b)]) hx hb dL_law_908 hl (k := 0) rfl (by rw [e_397]; rfl) (by decide) rfl (fun ls hl => ?_)
        have h9 : x_397 = 5 := by rw [e_397]; decide
        subst h9
        refine lv_goto (tgt := 18) hx hb dL_law_911 (by decide) ?_
        refine lv_iload_n hx hb dL_law_18 rfl (lv_at hl 0 rfl) ?_
        refine lv_aload_n hx hb dL_law_19 rfl (lv_at hl 3 rfl) ?_
        refine va_slen hx hb hX hbl hbA hS dL_law_20 ?_
        refine lv_topi (fun x_398 e_398 => ?_)
        refine lv_iconst (v := 5) hx hb dL_law_21 (by decide) ?_
        refine lv_isub hx hb dL_law_22 ?_
        refine lv_topi (fun x_399 e_399 => ?_)
        refine lv_icmp_gt (tgt := 914) hx hb dL_law_23 (by decide) (fun c_400 => ?_) (fun c_400 => ?_)
        · refine lv_iconst (v := 1) hx hb dL_law_914 (by decide) ?_
          refine va_forget (fun q hq => by have := hS.2.2 q hq; rw [hAe] at this; exact this) ?_
          refine W.widen (k := 600000) (n := 7302250) (Nat.le_of_ble_eq_true rfl) (Nat.le_of_ble_eq_true rfl) ?_
          exact lw_ret hx hb hr hlocks dL_law_915
        · exact absurd (by rw [e_399, e_398]; decide) c_400
      · exact absurd (by rw [hw_394, hw_395]) c_396
    by_cases c_401 : x_62 = 20
    · refine lv_tableIn (tgt := 700) hx hb dL_law_32 (by rw [c_401]; decide) (by rw [c_401]; decide) (by rw [c_401]; rfl) (by decide) ?_
      have hP : va_P (dC, dI) classes [(q_1, .inr (11, [.ref q_5, .ref q_6, .ref q_7, .ref q_8, .ref q_9, .ref q_10, .ref q_11, .ref q_12, .ref q_13, .ref q_14, .ref q_15, .int 0, .int 0, .int 1])), (q_7, .inr (4, [.ref q_16, .ref q_17, .ref q_18, .ref q_19, .ref q_20, .int 0, .int 0, .int 0])), (q_14, .inl (aC 0, 7, .inl (fun _ => 0))), (q_31, .inr (12, [.ref q_34, .ref q_35, .ref q_36, .ref q_37, .ref q_38, .ref q_39, .int 0, .int 0, .int 0, .ref q_40, .ref q_41, .ref q_42, .ref q_43, .int 0, .int 0, .int 0, .ref q_44, .int 0, .int 0, .int 0, .ref q_45, .ref q_46, .ref q_47, .ref q_48, .ref q_49, .ref q_50, .ref q_51, .ref q_52, .int 0, .ref q_53, .ref q_54, .ref q_55, .ref q_56])), (q_34, .inl (aC 0, 7, .inl (fun _ => 0)))] H := hP.sub [0, 1, 21, 22, 23] rfl
      have hD : va_D A [(q_1, .inr (11, [.ref q_5, .ref q_6, .ref q_7, .ref q_8, .ref q_9, .ref q_10, .ref q_11, .ref q_12, .ref q_13, .ref q_14, .ref q_15, .int 0, .int 0, .int 1])), (q_7, .inr (4, [.ref q_16, .ref q_17, .ref q_18, .ref q_19, .ref q_20, .int 0, .int 0, .int 0])), (q_14, .inl (aC 0, 7, .inl (fun _ => 0))), (q_31, .inr (12, [.ref q_34, .ref q_35, .ref q_36, .ref q_37, .ref q_38, .ref q_39, .int 0, .int 0, .int 0, .ref q_40, .ref q_41, .ref q_42, .ref q_43, .int 0, .int 0, .int 0, .ref q_44, .int 0, .int 0, .int 0, .ref q_45, .ref q_46, .ref q_47, .ref q_48, .ref q_49, .ref q_50, .ref q_51, .ref q_52, .int 0, .ref q_53, .ref q_54, .ref q_55, .ref q_56])), (q_34, .inl (aC 0, 7, .inl (fun _ => 0)))] := hD.sub [0, 1, 21, 22, 23] (by decide) rfl
      refine lv_aload_n hx hb dL_law_700 rfl (lv_at hl 2 rfl) ?_
      refine lv_aload_n hx hb dL_law_701 rfl (lv_at hl 3 rfl) ?_
      refine lv_iload_n hx hb dL_law_702 rfl (lv_at hl 0 rfl) ?_
      refine lv_iconst (v := 1) hx hb dL_law_703 (by decide) ?_
      refine lv_iadd hx hb dL_law_704 ?_
      refine lv_topi (fun x_402 e_402 => ?_)
      have h9 : x_402 = 1 := by rw [e_402]; decide
      subst h9
      have h_403 : vp_in 1 5 := by first | assumption | (unfold vp_in; decide) | exact vp_in_nI (by omega) (by omega) | (subst_vars; first | (unfold vp_in; decide) | exact vp_in_nI (by omega) (by omega))
      refine va_sld hx hb hX hbl hbA hS h_403 dL_law_705 ?_
      refine lv_topi (fun x_404 e_404 => ?_)
      have h9 : x_404 = (xs 1) := by rw [e_404]; rfl
      subst h9
      refine lv_aload_n hx hb dL_law_706 rfl (lv_at hl 3 rfl) ?_
      refine lv_iload_n hx hb dL_law_707 rfl (lv_at hl 0 rfl) ?_
      refine lv_iconst (v := 2) hx hb dL_law_708 (by decide) ?_
      refine lv_iadd hx hb dL_law_709 ?_
      refine lv_topi (fun x_405 e_405 => ?_)
      have h9 : x_405 = 2 := by rw [e_405]; decide
      subst h9
      have h_406 : vp_in 2 5 := by first | assumption | (unfold vp_in; decide) | exact vp_in_nI (by omega) (by omega) | (subst_vars; first | (unfold vp_in; decide) | exact vp_in_nI (by omega) (by omega))
      refine va_sld hx hb hX hbl hbA hS h_406 dL_law_710 ?_
      refine lv_topi (fun x_407 e_407 => ?_)
      have h9 : x_407 = (xs 2) := by rw [e_407]; rfl
      subst h9
      have hPc := hP.sub (ws' := [(q_1, .inr (11, [.ref q_5, .ref q_6, .ref q_7, .ref q_8, .ref q_9, .ref q_10, .ref q_11, .ref q_12, .ref q_13, .ref q_14, .ref q_15, .int 0, .int 0, .int 1])), (q_7, .inr (4, [.ref q_16, .ref q_17, .ref q_18, .ref q_19, .ref q_20, .int 0, .int 0, .int 0])), (q_14, .inl (aC 0, 7, .inl (fun _ => 0)))]) [0, 1, 2] rfl
      have hDc := hD.sub (ws' := [(q_1, .inr (11, [.ref q_5, .ref q_6, .ref q_7, .ref q_8, .ref q_9, .ref q_10, .ref q_11, .ref q_12, .ref q_13, .ref q_14, .ref q_15, .int 0, .int 0, .int 1])), (q_7, .inr (4, [.ref q_16, .ref q_17, .ref q_18, .ref q_19, .ref q_20, .int 0, .int 0, .int 0])), (q_14, .inl (aC 0, 7, .inl (fun _ => 0)))]) [0, 1, 2] (by decide) rfl
      have hFc := va_free (wc := [(q_1, .inr (11, [.ref q_5, .ref q_6, .ref q_7, .ref q_8, .ref q_9, .ref q_10, .ref q_11, .ref q_12, .ref q_13, .ref q_14, .ref q_15, .int 0, .int 0, .int 1])), (q_7, .inr (4, [.ref q_16, .ref q_17, .ref q_18, .ref q_19, .ref q_20, .int 0, .int 0, .int 0])), (q_14, .inl (aC 0, 7, .inl (fun _ => 0)))]) hD hS hA [0, 1, 2] rfl
      refine va_calli (va_runV (As := [.int (xs 1), .int (xs 2)]) (rest := []) ⟨hx, hb, hml, hown, hts⟩ (c_X11_swap_r l dC dI aC H.size q_1 q_5 q_6 q_7 q_8 q_9 q_10 q_11 q_12 q_13 q_14 q_15 0 0 1 q_16 q_17 q_18 q_19 q_20 0 0 0 (fun _ => 0) (xs 1) (xs 2) (no0 _)) ⟨(callB_of 2 hts (gG kw_613) rfl rfl rfl (hts _ (gw kw_1 rfl)) (hts _ (gw kw_610 rfl)) (by decide +kernel) ⟨Nat.le_of_ble_eq_true rfl, Nat.le_of_ble_eq_true rfl⟩), (hts _ (gw kw_611 rfl)), (hts _ (gw kw_612 rfl))⟩ ⟨fun a U g mk q => by obtain ⟨q0, q1, qP, qK, qD, qN⟩ := q; exact ⟨q0, q1, qP, va_K.moved (u := U) (U := U.calling g mk a) (Vm.Alike.refl U.vm) qK, qD, NX.same (u := U) (U := U.calling g mk a) rfl qN⟩, va_recv hK hPc (ci := 11) (q0 := 0) rfl rfl, fun U hU hW => ⟨rfl, by rw [hU], by rw [hU]; exact hPc, va_K.moved hW.alike hK, hDc.weaken (fun _ _ _ _ => trivial), NX.warm hW hN⟩⟩ rfl rfl hl.1 rfl (lv_room (Nat.le_of_ble_eq_true rfl)) dL_law_711 ⟨Nat.le_of_ble_eq_true rfl, Nat.le_of_ble_eq_true rfl⟩) hS (fun q _ h => hFc q h) hFc (fun x_408 u t H1 locs ht hvm hw_408 hB hz1 hk1 hS => ?_)
      obtain ⟨hP1, hK1, hD1⟩ := hB
      rw [ht] at hP1
      clear hK1
      try dsimp only at hw_408
      obtain ⟨hP, hD⟩ := va_join (wr := [(q_31, .inr (12, [.ref q_34, .ref q_35, .ref q_36, .ref q_37, .ref q_38, .ref q_39, .int 0, .int 0, .int 0, .ref q_40, .ref q_41, .ref q_42, .ref q_43, .int 0, .int 0, .int 0, .ref q_44, .int 0, .int 0, .int 0, .ref q_45, .ref q_46, .ref q_47, .ref q_48, .ref q_49, .ref q_50, .ref q_51, .ref q_52, .int 0, .ref q_53, .ref q_54, .ref q_55, .ref q_56])), (q_34, .inl (aC 0, 7, .inl (fun _ => 0)))]) (w1 := []) hP hD [0, 1, 2] [3, 4] rfl rfl (by decide) (by decide) hk1 hFc hP1 hD1
      generalize H1 = H at hP hS ⊢
      have hP : va_P (dC, dI) classes [(q_31, .inr (12, [.ref q_34, .ref q_35, .ref q_36, .ref q_37, .ref q_38, .ref q_39, .int 0, .int 0, .int 0, .ref q_40, .ref q_41, .ref q_42, .ref q_43, .int 0, .int 0, .int 0, .ref q_44, .int 0, .int 0, .int 0, .ref q_45, .ref q_46, .ref q_47, .ref q_48, .ref q_49, .ref q_50, .ref q_51, .ref q_52, .int 0, .ref q_53, .ref q_54, .ref q_55, .ref q_56])), (q_34, .inl (aC 0, 7, .inl (fun _ => 0)))] H := hP
      have hD : va_D A [(q_31, .inr (12, [.ref q_34, .ref q_35, .ref q_36, .ref q_37, .ref q_38, .ref q_39, .int 0, .int 0, .int 0, .ref q_40, .ref q_41, .ref q_42, .ref q_43, .int 0, .int 0, .int 0, .ref q_44, .int 0, .int 0, .int 0, .ref q_45, .ref q_46, .ref q_47, .ref q_48, .ref q_49, .ref q_50, .ref q_51, .ref q_52, .int 0, .ref q_53, .ref q_54, .ref q_55, .ref q_56])), (q_34, .inl (aC 0, 7, .inl (fun _ => 0)))] := hD
      clear hPc hDc hFc hz1 hk1 hP1 hD1 ht hvm
      refine lv_aload_n hx hb dL_law_714 rfl (lv_at hl 1 rfl) ?_
      refine lv_aload_n hx hb dL_law_715 rfl (lv_at hl 3 rfl) ?_
      refine lv_iload_n hx hb dL_law_716 rfl (lv_at hl 0 rfl) ?_
      refine lv_iconst (v := 1) hx hb dL_law_717 (by decide) ?_
      refine lv_iadd hx hb dL_law_718 ?_
      refine lv_topi (fun x_409 e_409 => ?_)
      have h9 : x_409 = 1 := by rw [e_409]; decide
      subst h9
      have h_410 : vp_in 1 5 := by first | assumption | (unfold vp_in; decide) | exact vp_in_nI (by omega) (by omega) | (subst_vars; first | (unfold vp_in; decide) | exact vp_in_nI (by omega) (by omega))
      refine va_sld hx hb hX hbl hbA hS h_410 dL_law_719 ?_
      refine lv_topi (fun x_411 e_411 => ?_)
      have h9 : x_411 = (xs 1) := by rw [e_411]; rfl
      subst h9
      refine lv_aload_n hx hb dL_law_720 rfl (lv_at hl 3 rfl) ?_
      refine lv_iload_n hx hb dL_law_721 rfl (lv_at hl 0 rfl) ?_
      refine lv_iconst (v := 2) hx hb dL_law_722 (by decide) ?_
      refine lv_iadd hx hb dL_law_723 ?_
      refine lv_topi (fun x_412 e_412 => ?_)
      have h9 : x_412 = 2 := by rw [e_412]; decide
      subst h9
      have h_413 : vp_in 2 5 := by first | assumption | (unfold vp_in; decide) | exact vp_in_nI (by omega) (by omega) | (subst_vars; first | (unfold vp_in; decide) | exact vp_in_nI (by omega) (by omega))
      refine va_sld hx hb hX hbl hbA hS h_413 dL_law_724 ?_
      refine lv_topi (fun x_414 e_414 => ?_)
      have h9 : x_414 = (xs 2) := by rw [e_414]; rfl
      subst h9
      have hPc := hP.sub (ws' := [(q_31, .inr (12, [.ref q_34, .ref q_35, .ref q_36, .ref q_37, .ref q_38, .ref q_39, .int 0, .int 0, .int 0, .ref q_40, .ref q_41, .ref q_42, .ref q_43, .int 0, .int 0, .int 0, .ref q_44, .int 0, .int 0, .int 0, .ref q_45, .ref q_46, .ref q_47, .ref q_48, .ref q_49, .ref q_50, .ref q_51, .ref q_52, .int 0, .ref q_53, .ref q_54, .ref q_55, .ref q_56])), (q_34, .inl (aC 0, 7, .inl (fun _ => 0)))]) [0, 1] rfl
      have hDc := hD.sub (ws' := [(q_31, .inr (12, [.ref q_34, .ref q_35, .ref q_36, .ref q_37, .ref q_38, .ref q_39, .int 0, .int 0, .int 0, .ref q_40, .ref q_41, .ref q_42, .ref q_43, .int 0, .int 0, .int 0, .ref q_44, .int 0, .int 0, .int 0, .ref q_45, .ref q_46, .ref q_47, .ref q_48, .ref q_49, .ref q_50, .ref q_51, .ref q_52, .int 0, .ref q_53, .ref q_54, .ref q_55, .ref q_56])), (q_34, .inl (aC 0, 7, .inl (fun _ => 0)))]) [0, 1] (by decide) rfl
      have hFc := va_free (wc := [(q_31, .inr (12, [.ref q_34, .ref q_35, .ref q_36, .ref q_37, .ref q_38, .ref q_39, .int 0, .int 0, .int 0, .ref q_40, .ref q_41, .ref q_42, .ref q_43, .int 0, .int 0, .int 0, .ref q_44, .int 0, .int 0, .int 0, .ref q_45, .ref q_46, .ref q_47, .ref q_48, .ref q_49, .ref q_50, .ref q_51, .ref q_52, .int 0, .ref q_53, .ref q_54, .ref q_55, .ref q_56])), (q_34, .inl (aC 0, 7, .inl (fun _ => 0)))]) hD hS hA [0, 1] rfl
      refine va_calli (va_runV (As := [.int (xs 1), .int (xs 2)]) (rest := [.int x_408]) ⟨hx, hb, hml, hown, hts⟩ (c_X12_swap_r l dC dI aC H.size q_31 q_34 q_35 q_36 q_37 q_38 q_39 q_40 q_41 q_42 q_43 q_44 q_45 q_46 q_47 q_48 q_49 q_50 q_51 q_52 q_53 q_54 q_55 q_56 0 0 0 0 0 0 0 0 0 0 (fun _ => 0) (xs 1) (xs 2) (no0 _)) ⟨(callB_of 2 hts (gG kw_1054) rfl rfl rfl (hts _ (gw kw_13 rfl)) (hts _ (gw kw_1051 rfl)) (by decide +kernel) ⟨Nat.le_of_ble_eq_true rfl, Nat.le_of_ble_eq_true rfl⟩), (hts _ (gw kw_1052 rfl)), (hts _ (gw kw_1053 rfl))⟩ ⟨fun a U g mk q => by obtain ⟨q0, q1, qP, qK, qD, qN⟩ := q; exact ⟨q0, q1, qP, va_K.moved (u := U) (U := U.calling g mk a) (Vm.Alike.refl U.vm) qK, qD, NX.same (u := U) (U := U.calling g mk a) rfl qN⟩, va_recv hK hPc (ci := 12) (q0 := 0) rfl rfl, fun U hU hW => ⟨rfl, by rw [hU], by rw [hU]; exact hPc, va_K.moved hW.alike hK, hDc.weaken (fun _ _ _ _ => trivial), NX.warm hW hN⟩⟩ rfl rfl hl.1 rfl (lv_room (Nat.le_of_ble_eq_true rfl)) dL_law_725 ⟨Nat.le_of_ble_eq_true rfl, Nat.le_of_ble_eq_true rfl⟩) hS (fun q _ h => hFc q h) hFc (fun x_415 u t H1 locs ht hvm hw_415 hB hz1 hk1 hS => ?_)
      obtain ⟨hP1, hK1, hD1⟩ := hB
      rw [ht] at hP1
      clear hK1
      try dsimp only at hw_415
      obtain ⟨hP, hD⟩ := va_join (wr := []) (w1 := []) hP hD [0, 1] [] rfl rfl (by decide) (by decide) hk1 hFc hP1 hD1
      generalize H1 = H at hP hS ⊢
      have hP : va_P (dC, dI) classes [] H := hP
      have hD : va_D A [] := hD
      clear hPc hDc hFc hz1 hk1 hP1 hD1 ht hvm
      refine lv_icmp_eq (tgt := 908) hx hb dL_law_728 (by decide) (fun c_416 => ?_) (fun c_416 => ?_)
      · obtain ⟨x_417, e_417⟩ : ∃ y : Int32, y = 0 + 5 := ⟨_, rfl⟩
        refine lv_iinc (v := x_417) (lv' := [(3, .int x_417), (2, .ref q_31), (1, .ref q_1), (0, .ref b)]) hx hb dL_law_908 hl (k := 0) rfl (by rw [e_417]; rfl) (by decide) rfl (fun ls hl => ?_)
        have h9 : x_417 = 5 := by rw [e_417]; decide
        subst h9
        refine lv_goto (tgt := 18) hx hb dL_law_911 (by decide) ?_
        refine lv_iload_n hx hb dL_law_18 rfl (lv_at hl 0 rfl) ?_
        refine lv_aload_n hx hb dL_law_19 rfl (lv_at hl 3 rfl) ?_
        refine va_slen hx hb hX hbl hbA hS dL_law_20 ?_
        refine lv_topi (fun x_418 e_418 => ?_)
        refine lv_iconst (v := 5) hx hb dL_law_21 (by decide) ?_
        refine lv_isub hx hb dL_law_22 ?_
        refine lv_topi (fun x_419 e_419 => ?_)
        refine lv_icmp_gt (tgt := 914) hx hb dL_law_23 (by decide) (fun c_420 => ?_) (fun c_420 => ?_)
        · refine lv_iconst (v := 1) hx hb dL_law_914 (by decide) ?_
          refine va_forget (fun q hq => by have := hS.2.2 q hq; rw [hAe] at this; exact this) ?_
          refine W.widen (k := 600000) (n := 7302250) (Nat.le_of_ble_eq_true rfl) (Nat.le_of_ble_eq_true rfl) ?_
          exact lw_ret hx hb hr hlocks dL_law_915
        · exact absurd (by rw [e_419, e_418]; decide) c_420
      · exact absurd (by rw [hw_408, hw_415]) c_416
    by_cases c_421 : x_62 = 21
    · refine lv_tableIn (tgt := 733) hx hb dL_law_32 (by rw [c_421]; decide) (by rw [c_421]; decide) (by rw [c_421]; rfl) (by decide) ?_
      have hP : va_P (dC, dI) classes [(q_1, .inr (11, [.ref q_5, .ref q_6, .ref q_7, .ref q_8, .ref q_9, .ref q_10, .ref q_11, .ref q_12, .ref q_13, .ref q_14, .ref q_15, .int 0, .int 0, .int 1])), (q_7, .inr (4, [.ref q_16, .ref q_17, .ref q_18, .ref q_19, .ref q_20, .int 0, .int 0, .int 0])), (q_14, .inl (aC 0, 7, .inl (fun _ => 0))), (q_31, .inr (12, [.ref q_34, .ref q_35, .ref q_36, .ref q_37, .ref q_38, .ref q_39, .int 0, .int 0, .int 0, .ref q_40, .ref q_41, .ref q_42, .ref q_43, .int 0, .int 0, .int 0, .ref q_44, .int 0, .int 0, .int 0, .ref q_45, .ref q_46, .ref q_47, .ref q_48, .ref q_49, .ref q_50, .ref q_51, .ref q_52, .int 0, .ref q_53, .ref q_54, .ref q_55, .ref q_56])), (q_34, .inl (aC 0, 7, .inl (fun _ => 0)))] H := hP.sub [0, 1, 21, 22, 23] rfl
      have hD : va_D A [(q_1, .inr (11, [.ref q_5, .ref q_6, .ref q_7, .ref q_8, .ref q_9, .ref q_10, .ref q_11, .ref q_12, .ref q_13, .ref q_14, .ref q_15, .int 0, .int 0, .int 1])), (q_7, .inr (4, [.ref q_16, .ref q_17, .ref q_18, .ref q_19, .ref q_20, .int 0, .int 0, .int 0])), (q_14, .inl (aC 0, 7, .inl (fun _ => 0))), (q_31, .inr (12, [.ref q_34, .ref q_35, .ref q_36, .ref q_37, .ref q_38, .ref q_39, .int 0, .int 0, .int 0, .ref q_40, .ref q_41, .ref q_42, .ref q_43, .int 0, .int 0, .int 0, .ref q_44, .int 0, .int 0, .int 0, .ref q_45, .ref q_46, .ref q_47, .ref q_48, .ref q_49, .ref q_50, .ref q_51, .ref q_52, .int 0, .ref q_53, .ref q_54, .ref q_55, .ref q_56])), (q_34, .inl (aC 0, 7, .inl (fun _ => 0)))] := hD.sub [0, 1, 21, 22, 23] (by decide) rfl
      refine lv_aload_n hx hb dL_law_733 rfl (lv_at hl 2 rfl) ?_
      refine lv_aload_n hx hb dL_law_734 rfl (lv_at hl 3 rfl) ?_
      refine lv_iload_n hx hb dL_law_735 rfl (lv_at hl 0 rfl) ?_
      refine lv_iconst (v := 1) hx hb dL_law_736 (by decide) ?_
      refine lv_iadd hx hb dL_law_737 ?_
      refine lv_topi (fun x_422 e_422 => ?_)
      have h9 : x_422 = 1 := by rw [e_422]; decide
      subst h9
      have h_423 : vp_in 1 5 := by first | assumption | (unfold vp_in; decide) | exact vp_in_nI (by omega) (by omega) | (subst_vars; first | (unfold vp_in; decide) | exact vp_in_nI (by omega) (by omega))
      refine va_sld hx hb hX hbl hbA hS h_423 dL_law_738 ?_
      refine lv_topi (fun x_424 e_424 => ?_)
      have h9 : x_424 = (xs 1) := by rw [e_424]; rfl
      subst h9
      have hPc := hP.sub (ws' := [(q_1, .inr (11, [.ref q_5, .ref q_6, .ref q_7, .ref q_8, .ref q_9, .ref q_10, .ref q_11, .ref q_12, .ref q_13, .ref q_14, .ref q_15, .int 0, .int 0, .int 1])), (q_7, .inr (4, [.ref q_16, .ref q_17, .ref q_18, .ref q_19, .ref q_20, .int 0, .int 0, .int 0])), (q_14, .inl (aC 0, 7, .inl (fun _ => 0)))]) [0, 1, 2] rfl
      have hDc := hD.sub (ws' := [(q_1, .inr (11, [.ref q_5, .ref q_6, .ref q_7, .ref q_8, .ref q_9, .ref q_10, .ref q_11, .ref q_12, .ref q_13, .ref q_14, .ref q_15, .int 0, .int 0, .int 1])), (q_7, .inr (4, [.ref q_16, .ref q_17, .ref q_18, .ref q_19, .ref q_20, .int 0, .int 0, .int 0])), (q_14, .inl (aC 0, 7, .inl (fun _ => 0)))]) [0, 1, 2] (by decide) rfl
      have hFc := va_free (wc := [(q_1, .inr (11, [.ref q_5, .ref q_6, .ref q_7, .ref q_8, .ref q_9, .ref q_10, .ref q_11, .ref q_12, .ref q_13, .ref q_14, .ref q_15, .int 0, .int 0, .int 1])), (q_7, .inr (4, [.ref q_16, .ref q_17, .ref q_18, .ref q_19, .ref q_20, .int 0, .int 0, .int 0])), (q_14, .inl (aC 0, 7, .inl (fun _ => 0)))]) hD hS hA [0, 1, 2] rfl
      refine va_calli (va_runV (As := [.int (xs 1)]) (rest := []) ⟨hx, hb, hml, hown, hts⟩ (c_X11_bestAge_r l dC dI aC H.size q_1 q_5 q_6 q_7 q_8 q_9 q_10 q_11 q_12 q_13 q_14 q_15 0 0 1 q_16 q_17 q_18 q_19 q_20 0 0 0 (fun _ => 0) (xs 1) (no0 _)) ⟨(callB_of 1 hts (gG kw_625) rfl rfl rfl (hts _ (gw kw_1 rfl)) (hts _ (gw kw_622 rfl)) (by decide +kernel) ⟨Nat.le_of_ble_eq_true rfl, Nat.le_of_ble_eq_true rfl⟩), (hts _ (gw kw_623 rfl)), (hts _ (gw kw_624 rfl))⟩ ⟨fun a U g mk q => by obtain ⟨q0, q1, qP, qK, qD, qN⟩ := q; exact ⟨q0, q1, qP, va_K.moved (u := U) (U := U.calling g mk a) (Vm.Alike.refl U.vm) qK, qD, NX.same (u := U) (U := U.calling g mk a) rfl qN⟩, va_recv hK hPc (ci := 11) (q0 := 0) rfl rfl, fun U hU hW => ⟨rfl, by rw [hU], by rw [hU]; exact hPc, va_K.moved hW.alike hK, hDc.weaken (fun _ _ _ _ => trivial), NX.warm hW hN⟩⟩ rfl rfl hl.1 rfl (lv_room (Nat.le_of_ble_eq_true rfl)) dL_law_739 ⟨Nat.le_of_ble_eq_true rfl, Nat.le_of_ble_eq_true rfl⟩) hS (fun q _ h => hFc q h) hFc (fun x_425 u t H1 locs ht hvm hw_425 hB hz1 hk1 hS => ?_)
      obtain ⟨hP1, hK1, hD1⟩ := hB
      rw [ht] at hP1
      clear hK1
      try dsimp only at hw_425
      obtain ⟨hP, hD⟩ := va_join (wr := [(q_31, .inr (12, [.ref q_34, .ref q_35, .ref q_36, .ref q_37, .ref q_38, .ref q_39, .int 0, .int 0, .int 0, .ref q_40, .ref q_41, .ref q_42, .ref q_43, .int 0, .int 0, .int 0, .ref q_44, .int 0, .int 0, .int 0, .ref q_45, .ref q_46, .ref q_47, .ref q_48, .ref q_49, .ref q_50, .ref q_51, .ref q_52, .int 0, .ref q_53, .ref q_54, .ref q_55, .ref q_56])), (q_34, .inl (aC 0, 7, .inl (fun _ => 0)))]) (w1 := []) hP hD [0, 1, 2] [3, 4] rfl rfl (by decide) (by decide) hk1 hFc hP1 hD1
      generalize H1 = H at hP hS ⊢
      have hP : va_P (dC, dI) classes [(q_31, .inr (12, [.ref q_34, .ref q_35, .ref q_36, .ref q_37, .ref q_38, .ref q_39, .int 0, .int 0, .int 0, .ref q_40, .ref q_41, .ref q_42, .ref q_43, .int 0, .int 0, .int 0, .ref q_44, .int 0, .int 0, .int 0, .ref q_45, .ref q_46, .ref q_47, .ref q_48, .ref q_49, .ref q_50, .ref q_51, .ref q_52, .int 0, .ref q_53, .ref q_54, .ref q_55, .ref q_56])), (q_34, .inl (aC 0, 7, .inl (fun _ => 0)))] H := hP
      have hD : va_D A [(q_31, .inr (12, [.ref q_34, .ref q_35, .ref q_36, .ref q_37, .ref q_38, .ref q_39, .int 0, .int 0, .int 0, .ref q_40, .ref q_41, .ref q_42, .ref q_43, .int 0, .int 0, .int 0, .ref q_44, .int 0, .int 0, .int 0, .ref q_45, .ref q_46, .ref q_47, .ref q_48, .ref q_49, .ref q_50, .ref q_51, .ref q_52, .int 0, .ref q_53, .ref q_54, .ref q_55, .ref q_56])), (q_34, .inl (aC 0, 7, .inl (fun _ => 0)))] := hD
      clear hPc hDc hFc hz1 hk1 hP1 hD1 ht hvm
      refine lv_aload_n hx hb dL_law_742 rfl (lv_at hl 1 rfl) ?_
      refine lv_aload_n hx hb dL_law_743 rfl (lv_at hl 3 rfl) ?_
      refine lv_iload_n hx hb dL_law_744 rfl (lv_at hl 0 rfl) ?_
      refine lv_iconst (v := 1) hx hb dL_law_745 (by decide) ?_
      refine lv_iadd hx hb dL_law_746 ?_
      refine lv_topi (fun x_426 e_426 => ?_)
      have h9 : x_426 = 1 := by rw [e_426]; decide
      subst h9
      have h_427 : vp_in 1 5 := by first | assumption | (unfold vp_in; decide) | exact vp_in_nI (by omega) (by omega) | (subst_vars; first | (unfold vp_in; decide) | exact vp_in_nI (by omega) (by omega))
      refine va_sld hx hb hX hbl hbA hS h_427 dL_law_747 ?_
      refine lv_topi (fun x_428 e_428 => ?_)
      have h9 : x_428 = (xs 1) := by rw [e_428]; rfl
      subst h9
      have hPc := hP.sub (ws' := [(q_31, .inr (12, [.ref q_34, .ref q_35, .ref q_36, .ref q_37, .ref q_38, .ref q_39, .int 0, .int 0, .int 0, .ref q_40, .ref q_41, .ref q_42, .ref q_43, .int 0, .int 0, .int 0, .ref q_44, .int 0, .int 0, .int 0, .ref q_45, .ref q_46, .ref q_47, .ref q_48, .ref q_49, .ref q_50, .ref q_51, .ref q_52, .int 0, .ref q_53, .ref q_54, .ref q_55, .ref q_56])), (q_34, .inl (aC 0, 7, .inl (fun _ => 0)))]) [0, 1] rfl
      have hDc := hD.sub (ws' := [(q_31, .inr (12, [.ref q_34, .ref q_35, .ref q_36, .ref q_37, .ref q_38, .ref q_39, .int 0, .int 0, .int 0, .ref q_40, .ref q_41, .ref q_42, .ref q_43, .int 0, .int 0, .int 0, .ref q_44, .int 0, .int 0, .int 0, .ref q_45, .ref q_46, .ref q_47, .ref q_48, .ref q_49, .ref q_50, .ref q_51, .ref q_52, .int 0, .ref q_53, .ref q_54, .ref q_55, .ref q_56])), (q_34, .inl (aC 0, 7, .inl (fun _ => 0)))]) [0, 1] (by decide) rfl
      have hFc := va_free (wc := [(q_31, .inr (12, [.ref q_34, .ref q_35, .ref q_36, .ref q_37, .ref q_38, .ref q_39, .int 0, .int 0, .int 0, .ref q_40, .ref q_41, .ref q_42, .ref q_43, .int 0, .int 0, .int 0, .ref q_44, .int 0, .int 0, .int 0, .ref q_45, .ref q_46, .ref q_47, .ref q_48, .ref q_49, .ref q_50, .ref q_51, .ref q_52, .int 0, .ref q_53, .ref q_54, .ref q_55, .ref q_56])), (q_34, .inl (aC 0, 7, .inl (fun _ => 0)))]) hD hS hA [0, 1] rfl
      refine va_calli (va_runV (As := [.int (xs 1)]) (rest := [.int x_425]) ⟨hx, hb, hml, hown, hts⟩ (c_X12_bestAge_r l dC dI aC H.size q_31 q_34 q_35 q_36 q_37 q_38 q_39 q_40 q_41 q_42 q_43 q_44 q_45 q_46 q_47 q_48 q_49 q_50 q_51 q_52 q_53 q_54 q_55 q_56 0 0 0 0 0 0 0 0 0 0 (fun _ => 0) (xs 1) (no0 _)) ⟨(callB_of 1 hts (gG kw_1062) rfl rfl rfl (hts _ (gw kw_13 rfl)) (hts _ (gw kw_1059 rfl)) (by decide +kernel) ⟨Nat.le_of_ble_eq_true rfl, Nat.le_of_ble_eq_true rfl⟩), (hts _ (gw kw_1060 rfl)), (hts _ (gw kw_1061 rfl))⟩ ⟨fun a U g mk q => by obtain ⟨q0, q1, qP, qK, qD, qN⟩ := q; exact ⟨q0, q1, qP, va_K.moved (u := U) (U := U.calling g mk a) (Vm.Alike.refl U.vm) qK, qD, NX.same (u := U) (U := U.calling g mk a) rfl qN⟩, va_recv hK hPc (ci := 12) (q0 := 0) rfl rfl, fun U hU hW => ⟨rfl, by rw [hU], by rw [hU]; exact hPc, va_K.moved hW.alike hK, hDc.weaken (fun _ _ _ _ => trivial), NX.warm hW hN⟩⟩ rfl rfl hl.1 rfl (lv_room (Nat.le_of_ble_eq_true rfl)) dL_law_748 ⟨Nat.le_of_ble_eq_true rfl, Nat.le_of_ble_eq_true rfl⟩) hS (fun q _ h => hFc q h) hFc (fun x_429 u t H1 locs ht hvm hw_429 hB hz1 hk1 hS => ?_)
      obtain ⟨hP1, hK1, hD1⟩ := hB
      rw [ht] at hP1
      clear hK1
      try dsimp only at hw_429
      obtain ⟨hP, hD⟩ := va_join (wr := []) (w1 := []) hP hD [0, 1] [] rfl rfl (by decide) (by decide) hk1 hFc hP1 hD1
      generalize H1 = H at hP hS ⊢
      have hP : va_P (dC, dI) classes [] H := hP
      have hD : va_D A [] := hD
      clear hPc hDc hFc hz1 hk1 hP1 hD1 ht hvm
      refine lv_icmp_eq (tgt := 908) hx hb dL_law_751 (by decide) (fun c_430 => ?_) (fun c_430 => ?_)
      · obtain ⟨x_431, e_431⟩ : ∃ y : Int32, y = 0 + 5 := ⟨_, rfl⟩
        refine lv_iinc (v := x_431) (lv' := [(3, .int x_431), (2, .ref q_31), (1, .ref q_1), (0, .ref b)]) hx hb dL_law_908 hl (k := 0) rfl (by rw [e_431]; rfl) (by decide) rfl (fun ls hl => ?_)
        have h9 : x_431 = 5 := by rw [e_431]; decide
        subst h9
        refine lv_goto (tgt := 18) hx hb dL_law_911 (by decide) ?_
        refine lv_iload_n hx hb dL_law_18 rfl (lv_at hl 0 rfl) ?_
        refine lv_aload_n hx hb dL_law_19 rfl (lv_at hl 3 rfl) ?_
        refine va_slen hx hb hX hbl hbA hS dL_law_20 ?_
        refine lv_topi (fun x_432 e_432 => ?_)
        refine lv_iconst (v := 5) hx hb dL_law_21 (by decide) ?_
        refine lv_isub hx hb dL_law_22 ?_
        refine lv_topi (fun x_433 e_433 => ?_)
        refine lv_icmp_gt (tgt := 914) hx hb dL_law_23 (by decide) (fun c_434 => ?_) (fun c_434 => ?_)
        · refine lv_iconst (v := 1) hx hb dL_law_914 (by decide) ?_
          refine va_forget (fun q hq => by have := hS.2.2 q hq; rw [hAe] at this; exact this) ?_
          refine W.widen (k := 600000) (n := 7302250) (Nat.le_of_ble_eq_true rfl) (Nat.le_of_ble_eq_true rfl) ?_
          exact lw_ret hx hb hr hlocks dL_law_915
        · exact absurd (by rw [e_433, e_432]; decide) c_434
      · exact absurd (by rw [hw_425, hw_429]) c_430
    by_cases c_435 : x_62 = 22
    · refine lv_tableIn (tgt := 756) hx hb dL_law_32 (by rw [c_435]; decide) (by rw [c_435]; decide) (by rw [c_435]; rfl) (by decide) ?_
      have hP : va_P (dC, dI) classes [(q_1, .inr (11, [.ref q_5, .ref q_6, .ref q_7, .ref q_8, .ref q_9, .ref q_10, .ref q_11, .ref q_12, .ref q_13, .ref q_14, .ref q_15, .int 0, .int 0, .int 1])), (q_7, .inr (4, [.ref q_16, .ref q_17, .ref q_18, .ref q_19, .ref q_20, .int 0, .int 0, .int 0])), (q_14, .inl (aC 0, 7, .inl (fun _ => 0))), (q_31, .inr (12, [.ref q_34, .ref q_35, .ref q_36, .ref q_37, .ref q_38, .ref q_39, .int 0, .int 0, .int 0, .ref q_40, .ref q_41, .ref q_42, .ref q_43, .int 0, .int 0, .int 0, .ref q_44, .int 0, .int 0, .int 0, .ref q_45, .ref q_46, .ref q_47, .ref q_48, .ref q_49, .ref q_50, .ref q_51, .ref q_52, .int 0, .ref q_53, .ref q_54, .ref q_55, .ref q_56])), (q_34, .inl (aC 0, 7, .inl (fun _ => 0)))] H := hP.sub [0, 1, 21, 22, 23] rfl
      have hD : va_D A [(q_1, .inr (11, [.ref q_5, .ref q_6, .ref q_7, .ref q_8, .ref q_9, .ref q_10, .ref q_11, .ref q_12, .ref q_13, .ref q_14, .ref q_15, .int 0, .int 0, .int 1])), (q_7, .inr (4, [.ref q_16, .ref q_17, .ref q_18, .ref q_19, .ref q_20, .int 0, .int 0, .int 0])), (q_14, .inl (aC 0, 7, .inl (fun _ => 0))), (q_31, .inr (12, [.ref q_34, .ref q_35, .ref q_36, .ref q_37, .ref q_38, .ref q_39, .int 0, .int 0, .int 0, .ref q_40, .ref q_41, .ref q_42, .ref q_43, .int 0, .int 0, .int 0, .ref q_44, .int 0, .int 0, .int 0, .ref q_45, .ref q_46, .ref q_47, .ref q_48, .ref q_49, .ref q_50, .ref q_51, .ref q_52, .int 0, .ref q_53, .ref q_54, .ref q_55, .ref q_56])), (q_34, .inl (aC 0, 7, .inl (fun _ => 0)))] := hD.sub [0, 1, 21, 22, 23] (by decide) rfl
      refine lv_aload_n hx hb dL_law_756 rfl (lv_at hl 2 rfl) ?_
      refine lv_aload_n hx hb dL_law_757 rfl (lv_at hl 3 rfl) ?_
      refine lv_iload_n hx hb dL_law_758 rfl (lv_at hl 0 rfl) ?_
      refine lv_iconst (v := 1) hx hb dL_law_759 (by decide) ?_
      refine lv_iadd hx hb dL_law_760 ?_
      refine lv_topi (fun x_436 e_436 => ?_)
      have h9 : x_436 = 1 := by rw [e_436]; decide
      subst h9
      have h_437 : vp_in 1 5 := by first | assumption | (unfold vp_in; decide) | exact vp_in_nI (by omega) (by omega) | (subst_vars; first | (unfold vp_in; decide) | exact vp_in_nI (by omega) (by omega))
      refine va_sld hx hb hX hbl hbA hS h_437 dL_law_761 ?_
      refine lv_topi (fun x_438 e_438 => ?_)
      have h9 : x_438 = (xs 1) := by rw [e_438]; rfl
      subst h9
      have hPc := hP.sub (ws' := [(q_1, .inr (11, [.ref q_5, .ref q_6, .ref q_7, .ref q_8, .ref q_9, .ref q_10, .ref q_11, .ref q_12, .ref q_13, .ref q_14, .ref q_15, .int 0, .int 0, .int 1])), (q_7, .inr (4, [.ref q_16, .ref q_17, .ref q_18, .ref q_19, .ref q_20, .int 0, .int 0, .int 0])), (q_14, .inl (aC 0, 7, .inl (fun _ => 0)))]) [0, 1, 2] rfl
      have hDc := hD.sub (ws' := [(q_1, .inr (11, [.ref q_5, .ref q_6, .ref q_7, .ref q_8, .ref q_9, .ref q_10, .ref q_11, .ref q_12, .ref q_13, .ref q_14, .ref q_15, .int 0, .int 0, .int 1])), (q_7, .inr (4, [.ref q_16, .ref q_17, .ref q_18, .ref q_19, .ref q_20, .int 0, .int 0, .int 0])), (q_14, .inl (aC 0, 7, .inl (fun _ => 0)))]) [0, 1, 2] (by decide) rfl
      have hFc := va_free (wc := [(q_1, .inr (11, [.ref q_5, .ref q_6, .ref q_7, .ref q_8, .ref q_9, .ref q_10, .ref q_11, .ref q_12, .ref q_13, .ref q_14, .ref q_15, .int 0, .int 0, .int 1])), (q_7, .inr (4, [.ref q_16, .ref q_17, .ref q_18, .ref q_19, .ref q_20, .int 0, .int 0, .int 0])), (q_14, .inl (aC 0, 7, .inl (fun _ => 0)))]) hD hS hA [0, 1, 2] rfl
      refine va_calli (va_runV (As := [.int (xs 1)]) (rest := []) ⟨hx, hb, hml, hown, hts⟩ (c_X11_league_r l dC dI aC H.size q_1 q_5 q_6 q_7 q_8 q_9 q_10 q_11 q_12 q_13 q_14 q_15 0 0 1 q_16 q_17 q_18 q_19 q_20 0 0 0 (fun _ => 0) (xs 1) (Or.inl rfl)) ⟨(callB_of 1 hts (gG kw_633) rfl rfl rfl (hts _ (gw kw_1 rfl)) (hts _ (gw kw_630 rfl)) (by decide +kernel) ⟨Nat.le_of_ble_eq_true rfl, Nat.le_of_ble_eq_true rfl⟩), (hts _ (gw kw_631 rfl)), (hts _ (gw kw_632 rfl))⟩ ⟨fun a U g mk q => by obtain ⟨q0, q1, qP, qK, qD, qN⟩ := q; exact ⟨q0, q1, qP, va_K.moved (u := U) (U := U.calling g mk a) (Vm.Alike.refl U.vm) qK, qD, NX.same (u := U) (U := U.calling g mk a) rfl qN⟩, va_recv hK hPc (ci := 11) (q0 := 0) rfl rfl, fun U hU hW => ⟨rfl, by rw [hU], by rw [hU]; exact hPc, va_K.moved hW.alike hK, hDc.weaken (fun _ _ _ _ => trivial), NX.warm hW hN⟩⟩ rfl rfl hl.1 rfl (lv_room (Nat.le_of_ble_eq_true rfl)) dL_law_762 ⟨Nat.le_of_ble_eq_true rfl, Nat.le_of_ble_eq_true rfl⟩) hS (fun q _ h => hFc q h) hFc (fun x_439 u t H1 locs ht hvm hw_439 hB hz1 hk1 hS => ?_)
      obtain ⟨hP1, hK1, hD1⟩ := hB
      rw [ht] at hP1
      clear hK1
      try dsimp only at hw_439
      obtain ⟨hP, hD⟩ := va_join (wr := [(q_31, .inr (12, [.ref q_34, .ref q_35, .ref q_36, .ref q_37, .ref q_38, .ref q_39, .int 0, .int 0, .int 0, .ref q_40, .ref q_41, .ref q_42, .ref q_43, .int 0, .int 0, .int 0, .ref q_44, .int 0, .int 0, .int 0, .ref q_45, .ref q_46, .ref q_47, .ref q_48, .ref q_49, .ref q_50, .ref q_51, .ref q_52, .int 0, .ref q_53, .ref q_54, .ref q_55, .ref q_56])), (q_34, .inl (aC 0, 7, .inl (fun _ => 0)))]) (w1 := []) hP hD [0, 1, 2] [3, 4] rfl rfl (by decide) (by decide) hk1 hFc hP1 hD1
      generalize H1 = H at hP hS ⊢
      have hP : va_P (dC, dI) classes [(q_31, .inr (12, [.ref q_34, .ref q_35, .ref q_36, .ref q_37, .ref q_38, .ref q_39, .int 0, .int 0, .int 0, .ref q_40, .ref q_41, .ref q_42, .ref q_43, .int 0, .int 0, .int 0, .ref q_44, .int 0, .int 0, .int 0, .ref q_45, .ref q_46, .ref q_47, .ref q_48, .ref q_49, .ref q_50, .ref q_51, .ref q_52, .int 0, .ref q_53, .ref q_54, .ref q_55, .ref q_56])), (q_34, .inl (aC 0, 7, .inl (fun _ => 0)))] H := hP
      have hD : va_D A [(q_31, .inr (12, [.ref q_34, .ref q_35, .ref q_36, .ref q_37, .ref q_38, .ref q_39, .int 0, .int 0, .int 0, .ref q_40, .ref q_41, .ref q_42, .ref q_43, .int 0, .int 0, .int 0, .ref q_44, .int 0, .int 0, .int 0, .ref q_45, .ref q_46, .ref q_47, .ref q_48, .ref q_49, .ref q_50, .ref q_51, .ref q_52, .int 0, .ref q_53, .ref q_54, .ref q_55, .ref q_56])), (q_34, .inl (aC 0, 7, .inl (fun _ => 0)))] := hD
      clear hPc hDc hFc hz1 hk1 hP1 hD1 ht hvm
      refine lv_aload_n hx hb dL_law_765 rfl (lv_at hl 1 rfl) ?_
      refine lv_aload_n hx hb dL_law_766 rfl (lv_at hl 3 rfl) ?_
      refine lv_iload_n hx hb dL_law_767 rfl (lv_at hl 0 rfl) ?_
      refine lv_iconst (v := 1) hx hb dL_law_768 (by decide) ?_
      refine lv_iadd hx hb dL_law_769 ?_
      refine lv_topi (fun x_440 e_440 => ?_)
      have h9 : x_440 = 1 := by rw [e_440]; decide
      subst h9
      have h_441 : vp_in 1 5 := by first | assumption | (unfold vp_in; decide) | exact vp_in_nI (by omega) (by omega) | (subst_vars; first | (unfold vp_in; decide) | exact vp_in_nI (by omega) (by omega))
      refine va_sld hx hb hX hbl hbA hS h_441 dL_law_770 ?_
      refine lv_topi (fun x_442 e_442 => ?_)
      have h9 : x_442 = (xs 1) := by rw [e_442]; rfl
      subst h9
      have hPc := hP.sub (ws' := [(q_31, .inr (12, [.ref q_34, .ref q_35, .ref q_36, .ref q_37, .ref q_38, .ref q_39, .int 0, .int 0, .int 0, .ref q_40, .ref q_41, .ref q_42, .ref q_43, .int 0, .int 0, .int 0, .ref q_44, .int 0, .int 0, .int 0, .ref q_45, .ref q_46, .ref q_47, .ref q_48, .ref q_49, .ref q_50, .ref q_51, .ref q_52, .int 0, .ref q_53, .ref q_54, .ref q_55, .ref q_56])), (q_34, .inl (aC 0, 7, .inl (fun _ => 0)))]) [0, 1] rfl
      have hDc := hD.sub (ws' := [(q_31, .inr (12, [.ref q_34, .ref q_35, .ref q_36, .ref q_37, .ref q_38, .ref q_39, .int 0, .int 0, .int 0, .ref q_40, .ref q_41, .ref q_42, .ref q_43, .int 0, .int 0, .int 0, .ref q_44, .int 0, .int 0, .int 0, .ref q_45, .ref q_46, .ref q_47, .ref q_48, .ref q_49, .ref q_50, .ref q_51, .ref q_52, .int 0, .ref q_53, .ref q_54, .ref q_55, .ref q_56])), (q_34, .inl (aC 0, 7, .inl (fun _ => 0)))]) [0, 1] (by decide) rfl
      have hFc := va_free (wc := [(q_31, .inr (12, [.ref q_34, .ref q_35, .ref q_36, .ref q_37, .ref q_38, .ref q_39, .int 0, .int 0, .int 0, .ref q_40, .ref q_41, .ref q_42, .ref q_43, .int 0, .int 0, .int 0, .ref q_44, .int 0, .int 0, .int 0, .ref q_45, .ref q_46, .ref q_47, .ref q_48, .ref q_49, .ref q_50, .ref q_51, .ref q_52, .int 0, .ref q_53, .ref q_54, .ref q_55, .ref q_56])), (q_34, .inl (aC 0, 7, .inl (fun _ => 0)))]) hD hS hA [0, 1] rfl
      refine va_calli (va_runV (As := [.int (xs 1)]) (rest := [.int x_439]) ⟨hx, hb, hml, hown, hts⟩ (c_X12_league_r l dC dI aC H.size q_31 q_34 q_35 q_36 q_37 q_38 q_39 q_40 q_41 q_42 q_43 q_44 q_45 q_46 q_47 q_48 q_49 q_50 q_51 q_52 q_53 q_54 q_55 q_56 0 0 0 0 0 0 0 0 0 0 (fun _ => 0) (xs 1) (Or.inl rfl)) ⟨(callB_of 1 hts (gG kw_1066) rfl rfl rfl (hts _ (gw kw_13 rfl)) (hts _ (gw kw_1063 rfl)) (by decide +kernel) ⟨Nat.le_of_ble_eq_true rfl, Nat.le_of_ble_eq_true rfl⟩), (hts _ (gw kw_1064 rfl)), (hts _ (gw kw_1065 rfl))⟩ ⟨fun a U g mk q => by obtain ⟨q0, q1, qP, qK, qD, qN⟩ := q; exact ⟨q0, q1, qP, va_K.moved (u := U) (U := U.calling g mk a) (Vm.Alike.refl U.vm) qK, qD, NX.same (u := U) (U := U.calling g mk a) rfl qN⟩, va_recv hK hPc (ci := 12) (q0 := 0) rfl rfl, fun U hU hW => ⟨rfl, by rw [hU], by rw [hU]; exact hPc, va_K.moved hW.alike hK, hDc.weaken (fun _ _ _ _ => trivial), NX.warm hW hN⟩⟩ rfl rfl hl.1 rfl (lv_room (Nat.le_of_ble_eq_true rfl)) dL_law_771 ⟨Nat.le_of_ble_eq_true rfl, Nat.le_of_ble_eq_true rfl⟩) hS (fun q _ h => hFc q h) hFc (fun x_443 u t H1 locs ht hvm hw_443 hB hz1 hk1 hS => ?_)
      obtain ⟨hP1, hK1, hD1⟩ := hB
      rw [ht] at hP1
      clear hK1
      try dsimp only at hw_443
      obtain ⟨hP, hD⟩ := va_join (wr := []) (w1 := []) hP hD [0, 1] [] rfl rfl (by decide) (by decide) hk1 hFc hP1 hD1
      generalize H1 = H at hP hS ⊢
      have hP : va_P (dC, dI) classes [] H := hP
      have hD : va_D A [] := hD
      clear hPc hDc hFc hz1 hk1 hP1 hD1 ht hvm
      refine lv_icmp_eq (tgt := 908) hx hb dL_law_774 (by decide) (fun c_444 => ?_) (fun c_444 => ?_)
      · obtain ⟨x_445, e_445⟩ : ∃ y : Int32, y = 0 + 5 := ⟨_, rfl⟩
        refine lv_iinc (v := x_445) (lv' := [(3, .int x_445), (2, .ref q_31), (1, .ref q_1), (0, .ref b)]) hx hb dL_law_908 hl (k := 0) rfl (by rw [e_445]; rfl) (by decide) rfl (fun ls hl => ?_)
        have h9 : x_445 = 5 := by rw [e_445]; decide
        subst h9
        refine lv_goto (tgt := 18) hx hb dL_law_911 (by decide) ?_
        refine lv_iload_n hx hb dL_law_18 rfl (lv_at hl 0 rfl) ?_
        refine lv_aload_n hx hb dL_law_19 rfl (lv_at hl 3 rfl) ?_
        refine va_slen hx hb hX hbl hbA hS dL_law_20 ?_
        refine lv_topi (fun x_446 e_446 => ?_)
        refine lv_iconst (v := 5) hx hb dL_law_21 (by decide) ?_
        refine lv_isub hx hb dL_law_22 ?_
        refine lv_topi (fun x_447 e_447 => ?_)
        refine lv_icmp_gt (tgt := 914) hx hb dL_law_23 (by decide) (fun c_448 => ?_) (fun c_448 => ?_)
        · refine lv_iconst (v := 1) hx hb dL_law_914 (by decide) ?_
          refine va_forget (fun q hq => by have := hS.2.2 q hq; rw [hAe] at this; exact this) ?_
          refine W.widen (k := 600000) (n := 7302250) (Nat.le_of_ble_eq_true rfl) (Nat.le_of_ble_eq_true rfl) ?_
          exact lw_ret hx hb hr hlocks dL_law_915
        · exact absurd (by rw [e_447, e_446]; decide) c_448
      · exact absurd (by rw [hw_439, hw_443]) c_444
    by_cases c_449 : x_62 = 23
    · refine lv_tableIn (tgt := 779) hx hb dL_law_32 (by rw [c_449]; decide) (by rw [c_449]; decide) (by rw [c_449]; rfl) (by decide) ?_
      have hP : va_P (dC, dI) classes [(q_1, .inr (11, [.ref q_5, .ref q_6, .ref q_7, .ref q_8, .ref q_9, .ref q_10, .ref q_11, .ref q_12, .ref q_13, .ref q_14, .ref q_15, .int 0, .int 0, .int 1])), (q_7, .inr (4, [.ref q_16, .ref q_17, .ref q_18, .ref q_19, .ref q_20, .int 0, .int 0, .int 0])), (q_14, .inl (aC 0, 7, .inl (fun _ => 0))), (q_31, .inr (12, [.ref q_34, .ref q_35, .ref q_36, .ref q_37, .ref q_38, .ref q_39, .int 0, .int 0, .int 0, .ref q_40, .ref q_41, .ref q_42, .ref q_43, .int 0, .int 0, .int 0, .ref q_44, .int 0, .int 0, .int 0, .ref q_45, .ref q_46, .ref q_47, .ref q_48, .ref q_49, .ref q_50, .ref q_51, .ref q_52, .int 0, .ref q_53, .ref q_54, .ref q_55, .ref q_56])), (q_34, .inl (aC 0, 7, .inl (fun _ => 0)))] H := hP.sub [0, 1, 21, 22, 23] rfl
      have hD : va_D A [(q_1, .inr (11, [.ref q_5, .ref q_6, .ref q_7, .ref q_8, .ref q_9, .ref q_10, .ref q_11, .ref q_12, .ref q_13, .ref q_14, .ref q_15, .int 0, .int 0, .int 1])), (q_7, .inr (4, [.ref q_16, .ref q_17, .ref q_18, .ref q_19, .ref q_20, .int 0, .int 0, .int 0])), (q_14, .inl (aC 0, 7, .inl (fun _ => 0))), (q_31, .inr (12, [.ref q_34, .ref q_35, .ref q_36, .ref q_37, .ref q_38, .ref q_39, .int 0, .int 0, .int 0, .ref q_40, .ref q_41, .ref q_42, .ref q_43, .int 0, .int 0, .int 0, .ref q_44, .int 0, .int 0, .int 0, .ref q_45, .ref q_46, .ref q_47, .ref q_48, .ref q_49, .ref q_50, .ref q_51, .ref q_52, .int 0, .ref q_53, .ref q_54, .ref q_55, .ref q_56])), (q_34, .inl (aC 0, 7, .inl (fun _ => 0)))] := hD.sub [0, 1, 21, 22, 23] (by decide) rfl
      refine lv_aload_n hx hb dL_law_779 rfl (lv_at hl 2 rfl) ?_
      refine lv_aload_n hx hb dL_law_780 rfl (lv_at hl 3 rfl) ?_
      refine lv_iload_n hx hb dL_law_781 rfl (lv_at hl 0 rfl) ?_
      refine lv_iconst (v := 1) hx hb dL_law_782 (by decide) ?_
      refine lv_iadd hx hb dL_law_783 ?_
      refine lv_topi (fun x_450 e_450 => ?_)
      have h9 : x_450 = 1 := by rw [e_450]; decide
      subst h9
      have h_451 : vp_in 1 5 := by first | assumption | (unfold vp_in; decide) | exact vp_in_nI (by omega) (by omega) | (subst_vars; first | (unfold vp_in; decide) | exact vp_in_nI (by omega) (by omega))
      refine va_sld hx hb hX hbl hbA hS h_451 dL_law_784 ?_
      refine lv_topi (fun x_452 e_452 => ?_)
      have h9 : x_452 = (xs 1) := by rw [e_452]; rfl
      subst h9
      have hPc := hP.sub (ws' := [(q_1, .inr (11, [.ref q_5, .ref q_6, .ref q_7, .ref q_8, .ref q_9, .ref q_10, .ref q_11, .ref q_12, .ref q_13, .ref q_14, .ref q_15, .int 0, .int 0, .int 1])), (q_7, .inr (4, [.ref q_16, .ref q_17, .ref q_18, .ref q_19, .ref q_20, .int 0, .int 0, .int 0])), (q_14, .inl (aC 0, 7, .inl (fun _ => 0)))]) [0, 1, 2] rfl
      have hDc := hD.sub (ws' := [(q_1, .inr (11, [.ref q_5, .ref q_6, .ref q_7, .ref q_8, .ref q_9, .ref q_10, .ref q_11, .ref q_12, .ref q_13, .ref q_14, .ref q_15, .int 0, .int 0, .int 1])), (q_7, .inr (4, [.ref q_16, .ref q_17, .ref q_18, .ref q_19, .ref q_20, .int 0, .int 0, .int 0])), (q_14, .inl (aC 0, 7, .inl (fun _ => 0)))]) [0, 1, 2] (by decide) rfl
      have hFc := va_free (wc := [(q_1, .inr (11, [.ref q_5, .ref q_6, .ref q_7, .ref q_8, .ref q_9, .ref q_10, .ref q_11, .ref q_12, .ref q_13, .ref q_14, .ref q_15, .int 0, .int 0, .int 1])), (q_7, .inr (4, [.ref q_16, .ref q_17, .ref q_18, .ref q_19, .ref q_20, .int 0, .int 0, .int 0])), (q_14, .inl (aC 0, 7, .inl (fun _ => 0)))]) hD hS hA [0, 1, 2] rfl
      refine va_calll (va_runV (As := [.int (xs 1)]) (rest := []) ⟨hx, hb, hml, hown, hts⟩ (c_X11_shaken_r l dC dI aC H.size q_1 q_5 q_6 q_7 q_8 q_9 q_10 q_11 q_12 q_13 q_14 q_15 0 0 1 q_16 q_17 q_18 q_19 q_20 0 0 0 (fun _ => 0) (xs 1) (Or.inl rfl)) ⟨(callB_of 1 hts (gG kw_647) rfl rfl rfl (hts _ (gw kw_1 rfl)) (hts _ (gw kw_644 rfl)) (by decide +kernel) ⟨Nat.le_of_ble_eq_true rfl, Nat.le_of_ble_eq_true rfl⟩), (hts _ (gw kw_645 rfl)), (hts _ (gw kw_646 rfl))⟩ ⟨fun a U g mk q => by obtain ⟨q0, q1, qP, qK, qD, qN⟩ := q; exact ⟨q0, q1, qP, va_K.moved (u := U) (U := U.calling g mk a) (Vm.Alike.refl U.vm) qK, qD, NX.same (u := U) (U := U.calling g mk a) rfl qN⟩, va_recv hK hPc (ci := 11) (q0 := 0) rfl rfl, fun U hU hW => ⟨rfl, by rw [hU], by rw [hU]; exact hPc, va_K.moved hW.alike hK, hDc.weaken (fun _ _ _ _ => trivial), NX.warm hW hN⟩⟩ rfl rfl hl.1 rfl (lv_room (Nat.le_of_ble_eq_true rfl)) dL_law_785 ⟨Nat.le_of_ble_eq_true rfl, Nat.le_of_ble_eq_true rfl⟩) hS (fun q _ h => hFc q h) hFc (fun x_453 u t H1 locs ht hvm hw_453 hB hz1 hk1 hS => ?_)
      obtain ⟨hP1, hK1, hD1⟩ := hB
      rw [ht] at hP1
      clear hK1
      try dsimp only at hw_453
      obtain ⟨hP, hD⟩ := va_join (wr := [(q_31, .inr (12, [.ref q_34, .ref q_35, .ref q_36, .ref q_37, .ref q_38, .ref q_39, .int 0, .int 0, .int 0, .ref q_40, .ref q_41, .ref q_42, .ref q_43, .int 0, .int 0, .int 0, .ref q_44, .int 0, .int 0, .int 0, .ref q_45, .ref q_46, .ref q_47, .ref q_48, .ref q_49, .ref q_50, .ref q_51, .ref q_52, .int 0, .ref q_53, .ref q_54, .ref q_55, .ref q_56])), (q_34, .inl (aC 0, 7, .inl (fun _ => 0)))]) (w1 := []) hP hD [0, 1, 2] [3, 4] rfl rfl (by decide) (by decide) hk1 hFc hP1 hD1
      generalize H1 = H at hP hS ⊢
      have hP : va_P (dC, dI) classes [(q_31, .inr (12, [.ref q_34, .ref q_35, .ref q_36, .ref q_37, .ref q_38, .ref q_39, .int 0, .int 0, .int 0, .ref q_40, .ref q_41, .ref q_42, .ref q_43, .int 0, .int 0, .int 0, .ref q_44, .int 0, .int 0, .int 0, .ref q_45, .ref q_46, .ref q_47, .ref q_48, .ref q_49, .ref q_50, .ref q_51, .ref q_52, .int 0, .ref q_53, .ref q_54, .ref q_55, .ref q_56])), (q_34, .inl (aC 0, 7, .inl (fun _ => 0)))] H := hP
      have hD : va_D A [(q_31, .inr (12, [.ref q_34, .ref q_35, .ref q_36, .ref q_37, .ref q_38, .ref q_39, .int 0, .int 0, .int 0, .ref q_40, .ref q_41, .ref q_42, .ref q_43, .int 0, .int 0, .int 0, .ref q_44, .int 0, .int 0, .int 0, .ref q_45, .ref q_46, .ref q_47, .ref q_48, .ref q_49, .ref q_50, .ref q_51, .ref q_52, .int 0, .ref q_53, .ref q_54, .ref q_55, .ref q_56])), (q_34, .inl (aC 0, 7, .inl (fun _ => 0)))] := hD
      clear hPc hDc hFc hz1 hk1 hP1 hD1 ht hvm
      refine lv_aload_n hx hb dL_law_788 rfl (lv_at hl 1 rfl) ?_
      refine lv_aload_n hx hb dL_law_789 rfl (lv_at hl 3 rfl) ?_
      refine lv_iload_n hx hb dL_law_790 rfl (lv_at hl 0 rfl) ?_
      refine lv_iconst (v := 1) hx hb dL_law_791 (by decide) ?_
      refine lv_iadd hx hb dL_law_792 ?_
      refine lv_topi (fun x_454 e_454 => ?_)
      have h9 : x_454 = 1 := by rw [e_454]; decide
      subst h9
      have h_455 : vp_in 1 5 := by first | assumption | (unfold vp_in; decide) | exact vp_in_nI (by omega) (by omega) | (subst_vars; first | (unfold vp_in; decide) | exact vp_in_nI (by omega) (by omega))
      refine va_sld hx hb hX hbl hbA hS h_455 dL_law_793 ?_
      refine lv_topi (fun x_456 e_456 => ?_)
      have h9 : x_456 = (xs 1) := by rw [e_456]; rfl
      subst h9
      have hPc := hP.sub (ws' := [(q_31, .inr (12, [.ref q_34, .ref q_35, .ref q_36, .ref q_37, .ref q_38, .ref q_39, .int 0, .int 0, .int 0, .ref q_40, .ref q_41, .ref q_42, .ref q_43, .int 0, .int 0, .int 0, .ref q_44, .int 0, .int 0, .int 0, .ref q_45, .ref q_46, .ref q_47, .ref q_48, .ref q_49, .ref q_50, .ref q_51, .ref q_52, .int 0, .ref q_53, .ref q_54, .ref q_55, .ref q_56])), (q_34, .inl (aC 0, 7, .inl (fun _ => 0)))]) [0, 1] rfl
      have hDc := hD.sub (ws' := [(q_31, .inr (12, [.ref q_34, .ref q_35, .ref q_36, .ref q_37, .ref q_38, .ref q_39, .int 0, .int 0, .int 0, .ref q_40, .ref q_41, .ref q_42, .ref q_43, .int 0, .int 0, .int 0, .ref q_44, .int 0, .int 0, .int 0, .ref q_45, .ref q_46, .ref q_47, .ref q_48, .ref q_49, .ref q_50, .ref q_51, .ref q_52, .int 0, .ref q_53, .ref q_54, .ref q_55, .ref q_56])), (q_34, .inl (aC 0, 7, .inl (fun _ => 0)))]) [0, 1] (by decide) rfl
      have hFc := va_free (wc := [(q_31, .inr (12, [.ref q_34, .ref q_35, .ref q_36, .ref q_37, .ref q_38, .ref q_39, .int 0, .int 0, .int 0, .ref q_40, .ref q_41, .ref q_42, .ref q_43, .int 0, .int 0, .int 0, .ref q_44, .int 0, .int 0, .int 0, .ref q_45, .ref q_46, .ref q_47, .ref q_48, .ref q_49, .ref q_50, .ref q_51, .ref q_52, .int 0, .ref q_53, .ref q_54, .ref q_55, .ref q_56])), (q_34, .inl (aC 0, 7, .inl (fun _ => 0)))]) hD hS hA [0, 1] rfl
      refine va_calll (va_runV (As := [.int (xs 1)]) (rest := [.long x_453]) ⟨hx, hb, hml, hown, hts⟩ (c_X12_shaken_r l dC dI aC H.size q_31 q_34 q_35 q_36 q_37 q_38 q_39 q_40 q_41 q_42 q_43 q_44 q_45 q_46 q_47 q_48 q_49 q_50 q_51 q_52 q_53 q_54 q_55 q_56 0 0 0 0 0 0 0 0 0 0 (fun _ => 0) (xs 1) (Or.inl rfl)) ⟨(callB_of 1 hts (gG kw_1077) rfl rfl rfl (hts _ (gw kw_13 rfl)) (hts _ (gw kw_1074 rfl)) (by decide +kernel) ⟨Nat.le_of_ble_eq_true rfl, Nat.le_of_ble_eq_true rfl⟩), (hts _ (gw kw_1075 rfl)), (hts _ (gw kw_1076 rfl))⟩ ⟨fun a U g mk q => by obtain ⟨q0, q1, qP, qK, qD, qN⟩ := q; exact ⟨q0, q1, qP, va_K.moved (u := U) (U := U.calling g mk a) (Vm.Alike.refl U.vm) qK, qD, NX.same (u := U) (U := U.calling g mk a) rfl qN⟩, va_recv hK hPc (ci := 12) (q0 := 0) rfl rfl, fun U hU hW => ⟨rfl, by rw [hU], by rw [hU]; exact hPc, va_K.moved hW.alike hK, hDc.weaken (fun _ _ _ _ => trivial), NX.warm hW hN⟩⟩ rfl rfl hl.1 rfl (lv_room (Nat.le_of_ble_eq_true rfl)) dL_law_794 ⟨Nat.le_of_ble_eq_true rfl, Nat.le_of_ble_eq_true rfl⟩) hS (fun q _ h => hFc q h) hFc (fun x_457 u t H1 locs ht hvm hw_457 hB hz1 hk1 hS => ?_)
      obtain ⟨hP1, hK1, hD1⟩ := hB
      rw [ht] at hP1
      clear hK1
      try dsimp only at hw_457
      obtain ⟨hP, hD⟩ := va_join (wr := []) (w1 := []) hP hD [0, 1] [] rfl rfl (by decide) (by decide) hk1 hFc hP1 hD1
      generalize H1 = H at hP hS ⊢
      have hP : va_P (dC, dI) classes [] H := hP
      have hD : va_D A [] := hD
      clear hPc hDc hFc hz1 hk1 hP1 hD1 ht hvm
      refine W.lcmp hx hb dL_law_797 ?_
      refine lv_topi (fun x_458 e_458 => ?_)
      refine lv_if_eq (tgt := 908) hx hb dL_law_798 (by decide) (fun c_459 => ?_) (fun c_459 => ?_)
      · obtain ⟨x_460, e_460⟩ : ∃ y : Int32, y = 0 + 5 := ⟨_, rfl⟩
        refine lv_iinc (v := x_460) (lv' := [(3, .int x_460), (2, .ref q_31), (1, .ref q_1), (0, .ref b)]) hx hb dL_law_908 hl (k := 0) rfl (by rw [e_460]; rfl) (by decide) rfl (fun ls hl => ?_)
        have h9 : x_460 = 5 := by rw [e_460]; decide
        subst h9
        refine lv_goto (tgt := 18) hx hb dL_law_911 (by decide) ?_
        refine lv_iload_n hx hb dL_law_18 rfl (lv_at hl 0 rfl) ?_
        refine lv_aload_n hx hb dL_law_19 rfl (lv_at hl 3 rfl) ?_
        refine va_slen hx hb hX hbl hbA hS dL_law_20 ?_
        refine lv_topi (fun x_461 e_461 => ?_)
        refine lv_iconst (v := 5) hx hb dL_law_21 (by decide) ?_
        refine lv_isub hx hb dL_law_22 ?_
        refine lv_topi (fun x_462 e_462 => ?_)
        refine lv_icmp_gt (tgt := 914) hx hb dL_law_23 (by decide) (fun c_463 => ?_) (fun c_463 => ?_)
        · refine lv_iconst (v := 1) hx hb dL_law_914 (by decide) ?_
          refine va_forget (fun q hq => by have := hS.2.2 q hq; rw [hAe] at this; exact this) ?_
          refine W.widen (k := 600000) (n := 7302250) (Nat.le_of_ble_eq_true rfl) (Nat.le_of_ble_eq_true rfl) ?_
          exact lw_ret hx hb hr hlocks dL_law_915
        · exact absurd (by rw [e_462, e_461]; decide) c_463
      · exact absurd (by rw [e_458, hw_453, hw_457]; simp [lg_cmp]) c_459
    by_cases c_464 : x_62 = 24
    · refine lv_tableIn (tgt := 803) hx hb dL_law_32 (by rw [c_464]; decide) (by rw [c_464]; decide) (by rw [c_464]; rfl) (by decide) ?_
      have hP : va_P (dC, dI) classes [(q_1, .inr (11, [.ref q_5, .ref q_6, .ref q_7, .ref q_8, .ref q_9, .ref q_10, .ref q_11, .ref q_12, .ref q_13, .ref q_14, .ref q_15, .int 0, .int 0, .int 1])), (q_7, .inr (4, [.ref q_16, .ref q_17, .ref q_18, .ref q_19, .ref q_20, .int 0, .int 0, .int 0])), (q_14, .inl (aC 0, 7, .inl (fun _ => 0))), (q_31, .inr (12, [.ref q_34, .ref q_35, .ref q_36, .ref q_37, .ref q_38, .ref q_39, .int 0, .int 0, .int 0, .ref q_40, .ref q_41, .ref q_42, .ref q_43, .int 0, .int 0, .int 0, .ref q_44, .int 0, .int 0, .int 0, .ref q_45, .ref q_46, .ref q_47, .ref q_48, .ref q_49, .ref q_50, .ref q_51, .ref q_52, .int 0, .ref q_53, .ref q_54, .ref q_55, .ref q_56])), (q_34, .inl (aC 0, 7, .inl (fun _ => 0)))] H := hP.sub [0, 1, 21, 22, 23] rfl
      have hD : va_D A [(q_1, .inr (11, [.ref q_5, .ref q_6, .ref q_7, .ref q_8, .ref q_9, .ref q_10, .ref q_11, .ref q_12, .ref q_13, .ref q_14, .ref q_15, .int 0, .int 0, .int 1])), (q_7, .inr (4, [.ref q_16, .ref q_17, .ref q_18, .ref q_19, .ref q_20, .int 0, .int 0, .int 0])), (q_14, .inl (aC 0, 7, .inl (fun _ => 0))), (q_31, .inr (12, [.ref q_34, .ref q_35, .ref q_36, .ref q_37, .ref q_38, .ref q_39, .int 0, .int 0, .int 0, .ref q_40, .ref q_41, .ref q_42, .ref q_43, .int 0, .int 0, .int 0, .ref q_44, .int 0, .int 0, .int 0, .ref q_45, .ref q_46, .ref q_47, .ref q_48, .ref q_49, .ref q_50, .ref q_51, .ref q_52, .int 0, .ref q_53, .ref q_54, .ref q_55, .ref q_56])), (q_34, .inl (aC 0, 7, .inl (fun _ => 0)))] := hD.sub [0, 1, 21, 22, 23] (by decide) rfl
      refine lv_aload_n hx hb dL_law_803 rfl (lv_at hl 2 rfl) ?_
      refine lv_aload_n hx hb dL_law_804 rfl (lv_at hl 3 rfl) ?_
      refine lv_iload_n hx hb dL_law_805 rfl (lv_at hl 0 rfl) ?_
      refine lv_iconst (v := 1) hx hb dL_law_806 (by decide) ?_
      refine lv_iadd hx hb dL_law_807 ?_
      refine lv_topi (fun x_465 e_465 => ?_)
      have h9 : x_465 = 1 := by rw [e_465]; decide
      subst h9
      have h_466 : vp_in 1 5 := by first | assumption | (unfold vp_in; decide) | exact vp_in_nI (by omega) (by omega) | (subst_vars; first | (unfold vp_in; decide) | exact vp_in_nI (by omega) (by omega))
      refine va_sld hx hb hX hbl hbA hS h_466 dL_law_808 ?_
      refine lv_topi (fun x_467 e_467 => ?_)
      have h9 : x_467 = (xs 1) := by rw [e_467]; rfl
      subst h9
      refine lv_aload_n hx hb dL_law_809 rfl (lv_at hl 3 rfl) ?_
      refine lv_iload_n hx hb dL_law_810 rfl (lv_at hl 0 rfl) ?_
      refine lv_iconst (v := 2) hx hb dL_law_811 (by decide) ?_
      refine lv_iadd hx hb dL_law_812 ?_
      refine lv_topi (fun x_468 e_468 => ?_)
      have h9 : x_468 = 2 := by rw [e_468]; decide
      subst h9
      have h_469 : vp_in 2 5 := by first | assumption | (unfold vp_in; decide) | exact vp_in_nI (by omega) (by omega) | (subst_vars; first | (unfold vp_in; decide) | exact vp_in_nI (by omega) (by omega))
      refine va_sld hx hb hX hbl hbA hS h_469 dL_law_813 ?_
      refine lv_topi (fun x_470 e_470 => ?_)
      have h9 : x_470 = (xs 2) := by rw [e_470]; rfl
      subst h9
      refine lv_aload_n hx hb dL_law_814 rfl (lv_at hl 3 rfl) ?_
      refine lv_iload_n hx hb dL_law_815 rfl (lv_at hl 0 rfl) ?_
      refine lv_iconst (v := 3) hx hb dL_law_816 (by decide) ?_
      refine lv_iadd hx hb dL_law_817 ?_
      refine lv_topi (fun x_471 e_471 => ?_)
      have h9 : x_471 = 3 := by rw [e_471]; decide
      subst h9
      have h_472 : vp_in 3 5 := by first | assumption | (unfold vp_in; decide) | exact vp_in_nI (by omega) (by omega) | (subst_vars; first | (unfold vp_in; decide) | exact vp_in_nI (by omega) (by omega))
      refine va_sld hx hb hX hbl hbA hS h_472 dL_law_818 ?_
      refine lv_topi (fun x_473 e_473 => ?_)
      have h9 : x_473 = (xs 3) := by rw [e_473]; rfl
      subst h9
      have hPc := hP.sub (ws' := [(q_1, .inr (11, [.ref q_5, .ref q_6, .ref q_7, .ref q_8, .ref q_9, .ref q_10, .ref q_11, .ref q_12, .ref q_13, .ref q_14, .ref q_15, .int 0, .int 0, .int 1])), (q_7, .inr (4, [.ref q_16, .ref q_17, .ref q_18, .ref q_19, .ref q_20, .int 0, .int 0, .int 0])), (q_14, .inl (aC 0, 7, .inl (fun _ => 0)))]) [0, 1, 2] rfl
      have hDc := hD.sub (ws' := [(q_1, .inr (11, [.ref q_5, .ref q_6, .ref q_7, .ref q_8, .ref q_9, .ref q_10, .ref q_11, .ref q_12, .ref q_13, .ref q_14, .ref q_15, .int 0, .int 0, .int 1])), (q_7, .inr (4, [.ref q_16, .ref q_17, .ref q_18, .ref q_19, .ref q_20, .int 0, .int 0, .int 0])), (q_14, .inl (aC 0, 7, .inl (fun _ => 0)))]) [0, 1, 2] (by decide) rfl
      have hFc := va_free (wc := [(q_1, .inr (11, [.ref q_5, .ref q_6, .ref q_7, .ref q_8, .ref q_9, .ref q_10, .ref q_11, .ref q_12, .ref q_13, .ref q_14, .ref q_15, .int 0, .int 0, .int 1])), (q_7, .inr (4, [.ref q_16, .ref q_17, .ref q_18, .ref q_19, .ref q_20, .int 0, .int 0, .int 0])), (q_14, .inl (aC 0, 7, .inl (fun _ => 0)))]) hD hS hA [0, 1, 2] rfl
      refine va_calli (va_runV (As := [.int (xs 1), .int (xs 2), .int (xs 3)]) (rest := []) ⟨hx, hb, hml, hown, hts⟩ (c_X11_seeds_r l dC dI aC H.size q_1 q_5 q_6 q_7 q_8 q_9 q_10 q_11 q_12 q_13 q_14 q_15 0 0 1 q_16 q_17 q_18 q_19 q_20 0 0 0 (fun _ => 0) (xs 1) (xs 2) (xs 3) (no0 _)) ⟨(callB_of 3 hts (gG kw_673) rfl rfl rfl (hts _ (gw kw_1 rfl)) (hts _ (gw kw_670 rfl)) (by decide +kernel) ⟨Nat.le_of_ble_eq_true rfl, Nat.le_of_ble_eq_true rfl⟩), (hts _ (gw kw_671 rfl)), (hts _ (gw kw_672 rfl))⟩ ⟨fun a U g mk q => by obtain ⟨q0, q1, qP, qK, qD, qN⟩ := q; exact ⟨q0, q1, qP, va_K.moved (u := U) (U := U.calling g mk a) (Vm.Alike.refl U.vm) qK, qD, NX.same (u := U) (U := U.calling g mk a) rfl qN⟩, va_recv hK hPc (ci := 11) (q0 := 0) rfl rfl, fun U hU hW => ⟨rfl, by rw [hU], by rw [hU]; exact hPc, va_K.moved hW.alike hK, hDc.weaken (fun _ _ _ _ => trivial), NX.warm hW hN⟩⟩ rfl rfl hl.1 rfl (lv_room (Nat.le_of_ble_eq_true rfl)) dL_law_819 ⟨Nat.le_of_ble_eq_true rfl, Nat.le_of_ble_eq_true rfl⟩) hS (fun q _ h => hFc q h) hFc (fun x_474 u t H1 locs ht hvm hw_474 hB hz1 hk1 hS => ?_)
      obtain ⟨hP1, hK1, hD1⟩ := hB
      rw [ht] at hP1
      clear hK1
      try dsimp only at hw_474
      obtain ⟨hP, hD⟩ := va_join (wr := [(q_31, .inr (12, [.ref q_34, .ref q_35, .ref q_36, .ref q_37, .ref q_38, .ref q_39, .int 0, .int 0, .int 0, .ref q_40, .ref q_41, .ref q_42, .ref q_43, .int 0, .int 0, .int 0, .ref q_44, .int 0, .int 0, .int 0, .ref q_45, .ref q_46, .ref q_47, .ref q_48, .ref q_49, .ref q_50, .ref q_51, .ref q_52, .int 0, .ref q_53, .ref q_54, .ref q_55, .ref q_56])), (q_34, .inl (aC 0, 7, .inl (fun _ => 0)))]) (w1 := []) hP hD [0, 1, 2] [3, 4] rfl rfl (by decide) (by decide) hk1 hFc hP1 hD1
      generalize H1 = H at hP hS ⊢
      have hP : va_P (dC, dI) classes [(q_31, .inr (12, [.ref q_34, .ref q_35, .ref q_36, .ref q_37, .ref q_38, .ref q_39, .int 0, .int 0, .int 0, .ref q_40, .ref q_41, .ref q_42, .ref q_43, .int 0, .int 0, .int 0, .ref q_44, .int 0, .int 0, .int 0, .ref q_45, .ref q_46, .ref q_47, .ref q_48, .ref q_49, .ref q_50, .ref q_51, .ref q_52, .int 0, .ref q_53, .ref q_54, .ref q_55, .ref q_56])), (q_34, .inl (aC 0, 7, .inl (fun _ => 0)))] H := hP
      have hD : va_D A [(q_31, .inr (12, [.ref q_34, .ref q_35, .ref q_36, .ref q_37, .ref q_38, .ref q_39, .int 0, .int 0, .int 0, .ref q_40, .ref q_41, .ref q_42, .ref q_43, .int 0, .int 0, .int 0, .ref q_44, .int 0, .int 0, .int 0, .ref q_45, .ref q_46, .ref q_47, .ref q_48, .ref q_49, .ref q_50, .ref q_51, .ref q_52, .int 0, .ref q_53, .ref q_54, .ref q_55, .ref q_56])), (q_34, .inl (aC 0, 7, .inl (fun _ => 0)))] := hD
      clear hPc hDc hFc hz1 hk1 hP1 hD1 ht hvm
      refine lv_aload_n hx hb dL_law_822 rfl (lv_at hl 1 rfl) ?_
      refine lv_aload_n hx hb dL_law_823 rfl (lv_at hl 3 rfl) ?_
      refine lv_iload_n hx hb dL_law_824 rfl (lv_at hl 0 rfl) ?_
      refine lv_iconst (v := 1) hx hb dL_law_825 (by decide) ?_
      refine lv_iadd hx hb dL_law_826 ?_
      refine lv_topi (fun x_475 e_475 => ?_)
      have h9 : x_475 = 1 := by rw [e_475]; decide
      subst h9
      have h_476 : vp_in 1 5 := by first | assumption | (unfold vp_in; decide) | exact vp_in_nI (by omega) (by omega) | (subst_vars; first | (unfold vp_in; decide) | exact vp_in_nI (by omega) (by omega))
      refine va_sld hx hb hX hbl hbA hS h_476 dL_law_827 ?_
      refine lv_topi (fun x_477 e_477 => ?_)
      have h9 : x_477 = (xs 1) := by rw [e_477]; rfl
      subst h9
      refine lv_aload_n hx hb dL_law_828 rfl (lv_at hl 3 rfl) ?_
      refine lv_iload_n hx hb dL_law_829 rfl (lv_at hl 0 rfl) ?_
      refine lv_iconst (v := 2) hx hb dL_law_830 (by decide) ?_
      refine lv_iadd hx hb dL_law_831 ?_
      refine lv_topi (fun x_478 e_478 => ?_)
      have h9 : x_478 = 2 := by rw [e_478]; decide
      subst h9
      have h_479 : vp_in 2 5 := by first | assumption | (unfold vp_in; decide) | exact vp_in_nI (by omega) (by omega) | (subst_vars; first | (unfold vp_in; decide) | exact vp_in_nI (by omega) (by omega))
      refine va_sld hx hb hX hbl hbA hS h_479 dL_law_832 ?_
      refine lv_topi (fun x_480 e_480 => ?_)
      have h9 : x_480 = (xs 2) := by rw [e_480]; rfl
      subst h9
      refine lv_aload_n hx hb dL_law_833 rfl (lv_at hl 3 rfl) ?_
      refine lv_iload_n hx hb dL_law_834 rfl (lv_at hl 0 rfl) ?_
      refine lv_iconst (v := 3) hx hb dL_law_835 (by decide) ?_
      refine lv_iadd hx hb dL_law_836 ?_
      refine lv_topi (fun x_481 e_481 => ?_)
      have h9 : x_481 = 3 := by rw [e_481]; decide
      subst h9
      have h_482 : vp_in 3 5 := by first | assumption | (unfold vp_in; decide) | exact vp_in_nI (by omega) (by omega) | (subst_vars; first | (unfold vp_in; decide) | exact vp_in_nI (by omega) (by omega))
      refine va_sld hx hb hX hbl hbA hS h_482 dL_law_837 ?_
      refine lv_topi (fun x_483 e_483 => ?_)
      have h9 : x_483 = (xs 3) := by rw [e_483]; rfl
      subst h9
      have hPc := hP.sub (ws' := [(q_31, .inr (12, [.ref q_34, .ref q_35, .ref q_36, .ref q_37, .ref q_38, .ref q_39, .int 0, .int 0, .int 0, .ref q_40, .ref q_41, .ref q_42, .ref q_43, .int 0, .int 0, .int 0, .ref q_44, .int 0, .int 0, .int 0, .ref q_45, .ref q_46, .ref q_47, .ref q_48, .ref q_49, .ref q_50, .ref q_51, .ref q_52, .int 0, .ref q_53, .ref q_54, .ref q_55, .ref q_56])), (q_34, .inl (aC 0, 7, .inl (fun _ => 0)))]) [0, 1] rfl
      have hDc := hD.sub (ws' := [(q_31, .inr (12, [.ref q_34, .ref q_35, .ref q_36, .ref q_37, .ref q_38, .ref q_39, .int 0, .int 0, .int 0, .ref q_40, .ref q_41, .ref q_42, .ref q_43, .int 0, .int 0, .int 0, .ref q_44, .int 0, .int 0, .int 0, .ref q_45, .ref q_46, .ref q_47, .ref q_48, .ref q_49, .ref q_50, .ref q_51, .ref q_52, .int 0, .ref q_53, .ref q_54, .ref q_55, .ref q_56])), (q_34, .inl (aC 0, 7, .inl (fun _ => 0)))]) [0, 1] (by decide) rfl
      have hFc := va_free (wc := [(q_31, .inr (12, [.ref q_34, .ref q_35, .ref q_36, .ref q_37, .ref q_38, .ref q_39, .int 0, .int 0, .int 0, .ref q_40, .ref q_41, .ref q_42, .ref q_43, .int 0, .int 0, .int 0, .ref q_44, .int 0, .int 0, .int 0, .ref q_45, .ref q_46, .ref q_47, .ref q_48, .ref q_49, .ref q_50, .ref q_51, .ref q_52, .int 0, .ref q_53, .ref q_54, .ref q_55, .ref q_56])), (q_34, .inl (aC 0, 7, .inl (fun _ => 0)))]) hD hS hA [0, 1] rfl
      refine va_calli (va_runV (As := [.int (xs 1), .int (xs 2), .int (xs 3)]) (rest := [.int x_474]) ⟨hx, hb, hml, hown, hts⟩ (c_X12_seeds_r l dC dI aC H.size q_31 q_34 q_35 q_36 q_37 q_38 q_39 q_40 q_41 q_42 q_43 q_44 q_45 q_46 q_47 q_48 q_49 q_50 q_51 q_52 q_53 q_54 q_55 q_56 0 0 0 0 0 0 0 0 0 0 (fun _ => 0) (xs 1) (xs 2) (xs 3) (no0 _)) ⟨(callB_of 3 hts (gG kw_1090) rfl rfl rfl (hts _ (gw kw_13 rfl)) (hts _ (gw kw_1087 rfl)) (by decide +kernel) ⟨Nat.le_of_ble_eq_true rfl, Nat.le_of_ble_eq_true rfl⟩), (hts _ (gw kw_1088 rfl)), (hts _ (gw kw_1089 rfl))⟩ ⟨fun a U g mk q => by obtain ⟨q0, q1, qP, qK, qD, qN⟩ := q; exact ⟨q0, q1, qP, va_K.moved (u := U) (U := U.calling g mk a) (Vm.Alike.refl U.vm) qK, qD, NX.same (u := U) (U := U.calling g mk a) rfl qN⟩, va_recv hK hPc (ci := 12) (q0 := 0) rfl rfl, fun U hU hW => ⟨rfl, by rw [hU], by rw [hU]; exact hPc, va_K.moved hW.alike hK, hDc.weaken (fun _ _ _ _ => trivial), NX.warm hW hN⟩⟩ rfl rfl hl.1 rfl (lv_room (Nat.le_of_ble_eq_true rfl)) dL_law_838 ⟨Nat.le_of_ble_eq_true rfl, Nat.le_of_ble_eq_true rfl⟩) hS (fun q _ h => hFc q h) hFc (fun x_484 u t H1 locs ht hvm hw_484 hB hz1 hk1 hS => ?_)
      obtain ⟨hP1, hK1, hD1⟩ := hB
      rw [ht] at hP1
      clear hK1
      try dsimp only at hw_484
      obtain ⟨hP, hD⟩ := va_join (wr := []) (w1 := []) hP hD [0, 1] [] rfl rfl (by decide) (by decide) hk1 hFc hP1 hD1
      generalize H1 = H at hP hS ⊢
      have hP : va_P (dC, dI) classes [] H := hP
      have hD : va_D A [] := hD
      clear hPc hDc hFc hz1 hk1 hP1 hD1 ht hvm
      refine lv_icmp_eq (tgt := 908) hx hb dL_law_841 (by decide) (fun c_485 => ?_) (fun c_485 => ?_)
      · obtain ⟨x_486, e_486⟩ : ∃ y : Int32, y = 0 + 5 := ⟨_, rfl⟩
        refine lv_iinc (v := x_486) (lv' := [(3, .int x_486), (2, .ref q_31), (1, .ref q_1), (0, .ref b)]) hx hb dL_law_908 hl (k := 0) rfl (by rw [e_486]; rfl) (by decide) rfl (fun ls hl => ?_)
        have h9 : x_486 = 5 := by rw [e_486]; decide
        subst h9
        refine lv_goto (tgt := 18) hx hb dL_law_911 (by decide) ?_
        refine lv_iload_n hx hb dL_law_18 rfl (lv_at hl 0 rfl) ?_
        refine lv_aload_n hx hb dL_law_19 rfl (lv_at hl 3 rfl) ?_
        refine va_slen hx hb hX hbl hbA hS dL_law_20 ?_
        refine lv_topi (fun x_487 e_487 => ?_)
        refine lv_iconst (v := 5) hx hb dL_law_21 (by decide) ?_
        refine lv_isub hx hb dL_law_22 ?_
        refine lv_topi (fun x_488 e_488 => ?_)
        refine lv_icmp_gt (tgt := 914) hx hb dL_law_23 (by decide) (fun c_489 => ?_) (fun c_489 => ?_)
        · refine lv_iconst (v := 1) hx hb dL_law_914 (by decide) ?_
          refine va_forget (fun q hq => by have := hS.2.2 q hq; rw [hAe] at this; exact this) ?_
          refine W.widen (k := 600000) (n := 7302250) (Nat.le_of_ble_eq_true rfl) (Nat.le_of_ble_eq_true rfl) ?_
          exact lw_ret hx hb hr hlocks dL_law_915
        · exact absurd (by rw [e_488, e_487]; decide) c_489
      · exact absurd (by rw [hw_474, hw_484]) c_485
    by_cases c_490 : x_62 = 25
    · refine lv_tableIn (tgt := 846) hx hb dL_law_32 (by rw [c_490]; decide) (by rw [c_490]; decide) (by rw [c_490]; rfl) (by decide) ?_
      have hP : va_P (dC, dI) classes [(q_1, .inr (11, [.ref q_5, .ref q_6, .ref q_7, .ref q_8, .ref q_9, .ref q_10, .ref q_11, .ref q_12, .ref q_13, .ref q_14, .ref q_15, .int 0, .int 0, .int 1])), (q_31, .inr (12, [.ref q_34, .ref q_35, .ref q_36, .ref q_37, .ref q_38, .ref q_39, .int 0, .int 0, .int 0, .ref q_40, .ref q_41, .ref q_42, .ref q_43, .int 0, .int 0, .int 0, .ref q_44, .int 0, .int 0, .int 0, .ref q_45, .ref q_46, .ref q_47, .ref q_48, .ref q_49, .ref q_50, .ref q_51, .ref q_52, .int 0, .ref q_53, .ref q_54, .ref q_55, .ref q_56]))] H := hP.sub [0, 22] rfl
      have hD : va_D A [(q_1, .inr (11, [.ref q_5, .ref q_6, .ref q_7, .ref q_8, .ref q_9, .ref q_10, .ref q_11, .ref q_12, .ref q_13, .ref q_14, .ref q_15, .int 0, .int 0, .int 1])), (q_31, .inr (12, [.ref q_34, .ref q_35, .ref q_36, .ref q_37, .ref q_38, .ref q_39, .int 0, .int 0, .int 0, .ref q_40, .ref q_41, .ref q_42, .ref q_43, .int 0, .int 0, .int 0, .ref q_44, .int 0, .int 0, .int 0, .ref q_45, .ref q_46, .ref q_47, .ref q_48, .ref q_49, .ref q_50, .ref q_51, .ref q_52, .int 0, .ref q_53, .ref q_54, .ref q_55, .ref q_56]))] := hD.sub [0, 22] (by decide) rfl
      refine lv_aload_n hx hb dL_law_846 rfl (lv_at hl 2 rfl) ?_
      have hPc := hP.sub (ws' := [(q_1, .inr (11, [.ref q_5, .ref q_6, .ref q_7, .ref q_8, .ref q_9, .ref q_10, .ref q_11, .ref q_12, .ref q_13, .ref q_14, .ref q_15, .int 0, .int 0, .int 1]))]) [0] rfl
      have hDc := hD.sub (ws' := [(q_1, .inr (11, [.ref q_5, .ref q_6, .ref q_7, .ref q_8, .ref q_9, .ref q_10, .ref q_11, .ref q_12, .ref q_13, .ref q_14, .ref q_15, .int 0, .int 0, .int 1]))]) [0] (by decide) rfl
      have hFc := va_free (wc := [(q_1, .inr (11, [.ref q_5, .ref q_6, .ref q_7, .ref q_8, .ref q_9, .ref q_10, .ref q_11, .ref q_12, .ref q_13, .ref q_14, .ref q_15, .int 0, .int 0, .int 1]))]) hD hS hA [0] rfl
      refine va_calli (va_runV (As := []) (rest := []) ⟨hx, hb, hml, hown, hts⟩ (c_X11_clear l dC dI aC H.size q_1 q_5 q_6 q_7 q_8 q_9 q_10 q_11 q_12 q_13 q_14 q_15 0 0 1 ) ⟨(callB_of 0 hts (gG kw_689) rfl rfl rfl (hts _ (gw kw_1 rfl)) (hts _ (gw kw_686 rfl)) (by decide +kernel) ⟨Nat.le_of_ble_eq_true rfl, Nat.le_of_ble_eq_true rfl⟩), (hts _ (gw kw_687 rfl)), (hts _ (gw kw_688 rfl))⟩ ⟨fun a U g mk q => by obtain ⟨q0, q1, qP, qK, qD, qN⟩ := q; exact ⟨q0, q1, qP, va_K.moved (u := U) (U := U.calling g mk a) (Vm.Alike.refl U.vm) qK, qD, NX.same (u := U) (U := U.calling g mk a) rfl qN⟩, va_recv hK hPc (ci := 11) (q0 := 0) rfl rfl, fun U hU hW => ⟨rfl, by rw [hU], by rw [hU]; exact hPc, va_K.moved hW.alike hK, hDc.weaken (fun _ _ _ _ => trivial), NX.warm hW hN⟩⟩ rfl rfl hl.1 rfl (lv_room (Nat.le_of_ble_eq_true rfl)) dL_law_847 ⟨Nat.le_of_ble_eq_true rfl, Nat.le_of_ble_eq_true rfl⟩) hS (fun q _ h => hFc q h) hFc (fun x_491 u t H1 locs ht hvm hw_491 hB hz1 hk1 hS => ?_)
      obtain ⟨hP1, hK1, hD1⟩ := hB
      rw [ht] at hP1
      clear hK1
      try dsimp only at hw_491
      obtain ⟨hP, hD⟩ := va_join (wr := [(q_31, .inr (12, [.ref q_34, .ref q_35, .ref q_36, .ref q_37, .ref q_38, .ref q_39, .int 0, .int 0, .int 0, .ref q_40, .ref q_41, .ref q_42, .ref q_43, .int 0, .int 0, .int 0, .ref q_44, .int 0, .int 0, .int 0, .ref q_45, .ref q_46, .ref q_47, .ref q_48, .ref q_49, .ref q_50, .ref q_51, .ref q_52, .int 0, .ref q_53, .ref q_54, .ref q_55, .ref q_56]))]) (w1 := [(q_1, .inr (11, [.ref q_5, .ref q_6, .ref q_7, .ref q_8, .ref q_9, .ref q_10, .ref q_11, .ref q_12, .ref q_13, .ref q_14, .ref q_15, .int 0, .int 0, .int 1]))]) hP hD [0] [1] rfl rfl (by decide) (by decide) hk1 hFc hP1 hD1
      generalize H1 = H at hP hS ⊢
      have hP : va_P (dC, dI) classes [(q_31, .inr (12, [.ref q_34, .ref q_35, .ref q_36, .ref q_37, .ref q_38, .ref q_39, .int 0, .int 0, .int 0, .ref q_40, .ref q_41, .ref q_42, .ref q_43, .int 0, .int 0, .int 0, .ref q_44, .int 0, .int 0, .int 0, .ref q_45, .ref q_46, .ref q_47, .ref q_48, .ref q_49, .ref q_50, .ref q_51, .ref q_52, .int 0, .ref q_53, .ref q_54, .ref q_55, .ref q_56])), (q_1, .inr (11, [.ref q_5, .ref q_6, .ref q_7, .ref q_8, .ref q_9, .ref q_10, .ref q_11, .ref q_12, .ref q_13, .ref q_14, .ref q_15, .int 0, .int 0, .int 1]))] H := hP
      have hD : va_D A [(q_31, .inr (12, [.ref q_34, .ref q_35, .ref q_36, .ref q_37, .ref q_38, .ref q_39, .int 0, .int 0, .int 0, .ref q_40, .ref q_41, .ref q_42, .ref q_43, .int 0, .int 0, .int 0, .ref q_44, .int 0, .int 0, .int 0, .ref q_45, .ref q_46, .ref q_47, .ref q_48, .ref q_49, .ref q_50, .ref q_51, .ref q_52, .int 0, .ref q_53, .ref q_54, .ref q_55, .ref q_56])), (q_1, .inr (11, [.ref q_5, .ref q_6, .ref q_7, .ref q_8, .ref q_9, .ref q_10, .ref q_11, .ref q_12, .ref q_13, .ref q_14, .ref q_15, .int 0, .int 0, .int 1]))] := hD
      clear hPc hDc hFc hz1 hk1 hP1 hD1 ht hvm
      refine lv_aload_n hx hb dL_law_850 rfl (lv_at hl 1 rfl) ?_
      have hPc := hP.sub (ws' := [(q_31, .inr (12, [.ref q_34, .ref q_35, .ref q_36, .ref q_37, .ref q_38, .ref q_39, .int 0, .int 0, .int 0, .ref q_40, .ref q_41, .ref q_42, .ref q_43, .int 0, .int 0, .int 0, .ref q_44, .int 0, .int 0, .int 0, .ref q_45, .ref q_46, .ref q_47, .ref q_48, .ref q_49, .ref q_50, .ref q_51, .ref q_52, .int 0, .ref q_53, .ref q_54, .ref q_55, .ref q_56]))]) [0] rfl
      have hDc := hD.sub (ws' := [(q_31, .inr (12, [.ref q_34, .ref q_35, .ref q_36, .ref q_37, .ref q_38, .ref q_39, .int 0, .int 0, .int 0, .ref q_40, .ref q_41, .ref q_42, .ref q_43, .int 0, .int 0, .int 0, .ref q_44, .int 0, .int 0, .int 0, .ref q_45, .ref q_46, .ref q_47, .ref q_48, .ref q_49, .ref q_50, .ref q_51, .ref q_52, .int 0, .ref q_53, .ref q_54, .ref q_55, .ref q_56]))]) [0] (by decide) rfl
      have hFc := va_free (wc := [(q_31, .inr (12, [.ref q_34, .ref q_35, .ref q_36, .ref q_37, .ref q_38, .ref q_39, .int 0, .int 0, .int 0, .ref q_40, .ref q_41, .ref q_42, .ref q_43, .int 0, .int 0, .int 0, .ref q_44, .int 0, .int 0, .int 0, .ref q_45, .ref q_46, .ref q_47, .ref q_48, .ref q_49, .ref q_50, .ref q_51, .ref q_52, .int 0, .ref q_53, .ref q_54, .ref q_55, .ref q_56]))]) hD hS hA [0] rfl
      refine va_calli (va_runV (As := []) (rest := [.int x_491]) ⟨hx, hb, hml, hown, hts⟩ (c_X12_clear l dC dI aC H.size q_31 q_34 q_35 q_36 q_37 q_38 q_39 q_40 q_41 q_42 q_43 q_44 q_45 q_46 q_47 q_48 q_49 q_50 q_51 q_52 q_53 q_54 q_55 q_56 0 0 0 0 0 0 0 0 0 0 ) ⟨(callB_of 0 hts (gG kw_986) rfl rfl rfl (hts _ (gw kw_13 rfl)) (hts _ (gw kw_983 rfl)) (by decide +kernel) ⟨Nat.le_of_ble_eq_true rfl, Nat.le_of_ble_eq_true rfl⟩), (hts _ (gw kw_984 rfl)), (hts _ (gw kw_985 rfl))⟩ ⟨fun a U g mk q => by obtain ⟨q0, q1, qP, qK, qD, qN⟩ := q; exact ⟨q0, q1, qP, va_K.moved (u := U) (U := U.calling g mk a) (Vm.Alike.refl U.vm) qK, qD, NX.same (u := U) (U := U.calling g mk a) rfl qN⟩, va_recv hK hPc (ci := 12) (q0 := 0) rfl rfl, fun U hU hW => ⟨rfl, by rw [hU], by rw [hU]; exact hPc, va_K.moved hW.alike hK, hDc.weaken (fun _ _ _ _ => trivial), NX.warm hW hN⟩⟩ rfl rfl hl.1 rfl (lv_room (Nat.le_of_ble_eq_true rfl)) dL_law_851 ⟨Nat.le_of_ble_eq_true rfl, Nat.le_of_ble_eq_true rfl⟩) hS (fun q _ h => hFc q h) hFc (fun x_492 u t H1 locs ht hvm hw_492 hB hz1 hk1 hS => ?_)
      obtain ⟨hP1, hK1, hD1⟩ := hB
      rw [ht] at hP1
      clear hK1
      try dsimp only at hw_492
      obtain ⟨hP, hD⟩ := va_join (wr := [(q_1, .inr (11, [.ref q_5, .ref q_6, .ref q_7, .ref q_8, .ref q_9, .ref q_10, .ref q_11, .ref q_12, .ref q_13, .ref q_14, .ref q_15, .int 0, .int 0, .int 1]))]) (w1 := [(q_31, .inr (12, [.ref q_34, .ref q_35, .ref q_36, .ref q_37, .ref q_38, .ref q_39, .int 0, .int 0, .int 0, .ref q_40, .ref q_41, .ref q_42, .ref q_43, .int 0, .int 0, .int 0, .ref q_44, .int 0, .int 0, .int 0, .ref q_45, .ref q_46, .ref q_47, .ref q_48, .ref q_49, .ref q_50, .ref q_51, .ref q_52, .int 0, .ref q_53, .ref q_54, .ref q_55, .ref q_56]))]) hP hD [0] [1] rfl rfl (by decide) (by decide) hk1 hFc hP1 hD1
      generalize H1 = H at hP hS ⊢
      have hP : va_P (dC, dI) classes [(q_1, .inr (11, [.ref q_5, .ref q_6, .ref q_7, .ref q_8, .ref q_9, .ref q_10, .ref q_11, .ref q_12, .ref q_13, .ref q_14, .ref q_15, .int 0, .int 0, .int 1])), (q_31, .inr (12, [.ref q_34, .ref q_35, .ref q_36, .ref q_37, .ref q_38, .ref q_39, .int 0, .int 0, .int 0, .ref q_40, .ref q_41, .ref q_42, .ref q_43, .int 0, .int 0, .int 0, .ref q_44, .int 0, .int 0, .int 0, .ref q_45, .ref q_46, .ref q_47, .ref q_48, .ref q_49, .ref q_50, .ref q_51, .ref q_52, .int 0, .ref q_53, .ref q_54, .ref q_55, .ref q_56]))] H := hP
      have hD : va_D A [(q_1, .inr (11, [.ref q_5, .ref q_6, .ref q_7, .ref q_8, .ref q_9, .ref q_10, .ref q_11, .ref q_12, .ref q_13, .ref q_14, .ref q_15, .int 0, .int 0, .int 1])), (q_31, .inr (12, [.ref q_34, .ref q_35, .ref q_36, .ref q_37, .ref q_38, .ref q_39, .int 0, .int 0, .int 0, .ref q_40, .ref q_41, .ref q_42, .ref q_43, .int 0, .int 0, .int 0, .ref q_44, .int 0, .int 0, .int 0, .ref q_45, .ref q_46, .ref q_47, .ref q_48, .ref q_49, .ref q_50, .ref q_51, .ref q_52, .int 0, .ref q_53, .ref q_54, .ref q_55, .ref q_56]))] := hD
      clear hPc hDc hFc hz1 hk1 hP1 hD1 ht hvm
      refine lv_icmp_eq (tgt := 908) hx hb dL_law_854 (by decide) (fun c_493 => ?_) (fun c_493 => ?_)
      · obtain ⟨x_494, e_494⟩ : ∃ y : Int32, y = 0 + 5 := ⟨_, rfl⟩
        refine lv_iinc (v := x_494) (lv' := [(3, .int x_494), (2, .ref q_31), (1, .ref q_1), (0, .ref b)]) hx hb dL_law_908 hl (k := 0) rfl (by rw [e_494]; rfl) (by decide) rfl (fun ls hl => ?_)
        have h9 : x_494 = 5 := by rw [e_494]; decide
        subst h9
        refine lv_goto (tgt := 18) hx hb dL_law_911 (by decide) ?_
        refine lv_iload_n hx hb dL_law_18 rfl (lv_at hl 0 rfl) ?_
        refine lv_aload_n hx hb dL_law_19 rfl (lv_at hl 3 rfl) ?_
        refine va_slen hx hb hX hbl hbA hS dL_law_20 ?_
        refine lv_topi (fun x_495 e_495 => ?_)
        refine lv_iconst (v := 5) hx hb dL_law_21 (by decide) ?_
        refine lv_isub hx hb dL_law_22 ?_
        refine lv_topi (fun x_496 e_496 => ?_)
        refine lv_icmp_gt (tgt := 914) hx hb dL_law_23 (by decide) (fun c_497 => ?_) (fun c_497 => ?_)
        · refine lv_iconst (v := 1) hx hb dL_law_914 (by decide) ?_
          refine va_forget (fun q hq => by have := hS.2.2 q hq; rw [hAe] at this; exact this) ?_
          refine W.widen (k := 600000) (n := 7302250) (Nat.le_of_ble_eq_true rfl) (Nat.le_of_ble_eq_true rfl) ?_
          exact lw_ret hx hb hr hlocks dL_law_915
        · exact absurd (by rw [e_496, e_495]; decide) c_497
      · exact absurd (by rw [hw_491, hw_492]) c_493
    by_cases c_498 : x_62 = 26
    · refine lv_tableIn (tgt := 859) hx hb dL_law_32 (by rw [c_498]; decide) (by rw [c_498]; decide) (by rw [c_498]; rfl) (by decide) ?_
      have hP : va_P (dC, dI) classes [(q_1, .inr (11, [.ref q_5, .ref q_6, .ref q_7, .ref q_8, .ref q_9, .ref q_10, .ref q_11, .ref q_12, .ref q_13, .ref q_14, .ref q_15, .int 0, .int 0, .int 1])), (q_7, .inr (4, [.ref q_16, .ref q_17, .ref q_18, .ref q_19, .ref q_20, .int 0, .int 0, .int 0])), (q_16, .inl (aC 0, 8, .inl (fun _ => 0))), (q_17, .inl (aC 0, 8, .inl (fun _ => 0))), (q_18, .inl (aC 0, 8, .inl (fun _ => 0))), (q_19, .inl (aC 0, 8, .inl (fun _ => 0))), (q_20, .inl (aC 0, 5, .inl SET0)), (q_9, .inr (4, [.ref q_21, .ref q_22, .ref q_23, .ref q_24, .ref q_25, .int 0, .int 0, .int 0])), (q_21, .inl (aC 0, 8, .inl (fun _ => 0))), (q_22, .inl (aC 0, 8, .inl (fun _ => 0))), (q_23, .inl (aC 0, 8, .inl (fun _ => 0))), (q_24, .inl (aC 0, 8, .inl (fun _ => 0))), (q_25, .inl (aC 0, 5, .inl SET0)), (q_31, .inr (12, [.ref q_34, .ref q_35, .ref q_36, .ref q_37, .ref q_38, .ref q_39, .int 0, .int 0, .int 0, .ref q_40, .ref q_41, .ref q_42, .ref q_43, .int 0, .int 0, .int 0, .ref q_44, .int 0, .int 0, .int 0, .ref q_45, .ref q_46, .ref q_47, .ref q_48, .ref q_49, .ref q_50, .ref q_51, .ref q_52, .int 0, .ref q_53, .ref q_54, .ref q_55, .ref q_56])), (q_35, .inl (aC 0, 9, .inl (fun _ => 0))), (q_36, .inl (aC 0, 9, .inl (fun _ => 0))), (q_37, .inl (aC 0, 9, .inl (fun _ => 0))), (q_38, .inl (aC 0, 8, .inl (fun _ => 0))), (q_39, .inl (aC 0, 5, .inl SET0)), (q_44, .inl (aC 0, 100, .inl (fun _ => 0)))] H := hP.sub [0, 1, 2, 3, 4, 5, 6, 7, 8, 9, 10, 11, 12, 22, 24, 25, 26, 27, 28, 30] rfl
      have hD : va_D A [(q_1, .inr (11, [.ref q_5, .ref q_6, .ref q_7, .ref q_8, .ref q_9, .ref q_10, .ref q_11, .ref q_12, .ref q_13, .ref q_14, .ref q_15, .int 0, .int 0, .int 1])), (q_7, .inr (4, [.ref q_16, .ref q_17, .ref q_18, .ref q_19, .ref q_20, .int 0, .int 0, .int 0])), (q_16, .inl (aC 0, 8, .inl (fun _ => 0))), (q_17, .inl (aC 0, 8, .inl (fun _ => 0))), (q_18, .inl (aC 0, 8, .inl (fun _ => 0))), (q_19, .inl (aC 0, 8, .inl (fun _ => 0))), (q_20, .inl (aC 0, 5, .inl SET0)), (q_9, .inr (4, [.ref q_21, .ref q_22, .ref q_23, .ref q_24, .ref q_25, .int 0, .int 0, .int 0])), (q_21, .inl (aC 0, 8, .inl (fun _ => 0))), (q_22, .inl (aC 0, 8, .inl (fun _ => 0))), (q_23, .inl (aC 0, 8, .inl (fun _ => 0))), (q_24, .inl (aC 0, 8, .inl (fun _ => 0))), (q_25, .inl (aC 0, 5, .inl SET0)), (q_31, .inr (12, [.ref q_34, .ref q_35, .ref q_36, .ref q_37, .ref q_38, .ref q_39, .int 0, .int 0, .int 0, .ref q_40, .ref q_41, .ref q_42, .ref q_43, .int 0, .int 0, .int 0, .ref q_44, .int 0, .int 0, .int 0, .ref q_45, .ref q_46, .ref q_47, .ref q_48, .ref q_49, .ref q_50, .ref q_51, .ref q_52, .int 0, .ref q_53, .ref q_54, .ref q_55, .ref q_56])), (q_35, .inl (aC 0, 9, .inl (fun _ => 0))), (q_36, .inl (aC 0, 9, .inl (fun _ => 0))), (q_37, .inl (aC 0, 9, .inl (fun _ => 0))), (q_38, .inl (aC 0, 8, .inl (fun _ => 0))), (q_39, .inl (aC 0, 5, .inl SET0)), (q_44, .inl (aC 0, 100, .inl (fun _ => 0)))] := hD.sub [0, 1, 2, 3, 4, 5, 6, 7, 8, 9, 10, 11, 12, 22, 24, 25, 26, 27, 28, 30] (by decide) rfl
      refine lv_aload_n hx hb dL_law_859 rfl (lv_at hl 2 rfl) ?_
      have hPc := hP.sub (ws' := [(q_1, .inr (11, [.ref q_5, .ref q_6, .ref q_7, .ref q_8, .ref q_9, .ref q_10, .ref q_11, .ref q_12, .ref q_13, .ref q_14, .ref q_15, .int 0, .int 0, .int 1])), (q_9, .inr (4, [.ref q_21, .ref q_22, .ref q_23, .ref q_24, .ref q_25, .int 0, .int 0, .int 0])), (q_21, .inl (aC 0, 8, .inl (fun _ => 0))), (q_22, .inl (aC 0, 8, .inl (fun _ => 0))), (q_23, .inl (aC 0, 8, .inl (fun _ => 0))), (q_24, .inl (aC 0, 8, .inl (fun _ => 0))), (q_25, .inl (aC 0, 5, .inl SET0)), (q_7, .inr (4, [.ref q_16, .ref q_17, .ref q_18, .ref q_19, .ref q_20, .int 0, .int 0, .int 0])), (q_16, .inl (aC 0, 8, .inl (fun _ => 0))), (q_17, .inl (aC 0, 8, .inl (fun _ => 0))), (q_18, .inl (aC 0, 8, .inl (fun _ => 0))), (q_19, .inl (aC 0, 8, .inl (fun _ => 0))), (q_20, .inl (aC 0, 5, .inl SET0))]) [0, 7, 8, 9, 10, 11, 12, 1, 2, 3, 4, 5, 6] rfl
      have hDc := hD.sub (ws' := [(q_1, .inr (11, [.ref q_5, .ref q_6, .ref q_7, .ref q_8, .ref q_9, .ref q_10, .ref q_11, .ref q_12, .ref q_13, .ref q_14, .ref q_15, .int 0, .int 0, .int 1])), (q_9, .inr (4, [.ref q_21, .ref q_22, .ref q_23, .ref q_24, .ref q_25, .int 0, .int 0, .int 0])), (q_21, .inl (aC 0, 8, .inl (fun _ => 0))), (q_22, .inl (aC 0, 8, .inl (fun _ => 0))), (q_23, .inl (aC 0, 8, .inl (fun _ => 0))), (q_24, .inl (aC 0, 8, .inl (fun _ => 0))), (q_25, .inl (aC 0, 5, .inl SET0)), (q_7, .inr (4, [.ref q_16, .ref q_17, .ref q_18, .ref q_19, .ref q_20, .int 0, .int 0, .int 0])), (q_16, .inl (aC 0, 8, .inl (fun _ => 0))), (q_17, .inl (aC 0, 8, .inl (fun _ => 0))), (q_18, .inl (aC 0, 8, .inl (fun _ => 0))), (q_19, .inl (aC 0, 8, .inl (fun _ => 0))), (q_20, .inl (aC 0, 5, .inl SET0))]) [0, 7, 8, 9, 10, 11, 12, 1, 2, 3, 4, 5, 6] (by decide) rfl
      have hFc := va_free (wc := [(q_1, .inr (11, [.ref q_5, .ref q_6, .ref q_7, .ref q_8, .ref q_9, .ref q_10, .ref q_11, .ref q_12, .ref q_13, .ref q_14, .ref q_15, .int 0, .int 0, .int 1])), (q_9, .inr (4, [.ref q_21, .ref q_22, .ref q_23, .ref q_24, .ref q_25, .int 0, .int 0, .int 0])), (q_21, .inl (aC 0, 8, .inl (fun _ => 0))), (q_22, .inl (aC 0, 8, .inl (fun _ => 0))), (q_23, .inl (aC 0, 8, .inl (fun _ => 0))), (q_24, .inl (aC 0, 8, .inl (fun _ => 0))), (q_25, .inl (aC 0, 5, .inl SET0)), (q_7, .inr (4, [.ref q_16, .ref q_17, .ref q_18, .ref q_19, .ref q_20, .int 0, .int 0, .int 0])), (q_16, .inl (aC 0, 8, .inl (fun _ => 0))), (q_17, .inl (aC 0, 8, .inl (fun _ => 0))), (q_18, .inl (aC 0, 8, .inl (fun _ => 0))), (q_19, .inl (aC 0, 8, .inl (fun _ => 0))), (q_20, .inl (aC 0, 5, .inl SET0))]) hD hS hA [0, 7, 8, 9, 10, 11, 12, 1, 2, 3, 4, 5, 6] rfl
      refine va_calli (va_runV (As := []) (rest := []) ⟨hx, hb, hml, hown, hts⟩ (c_X11_image_0 l dC dI aC H.size q_1 q_5 q_6 q_7 q_8 q_9 q_10 q_11 q_12 q_13 q_14 q_15 0 0 1 q_16 q_17 q_18 q_19 q_20 q_21 q_22 q_23 q_24 q_25 0 0 0 0 0 0 (fun _ => 0) (fun _ => 0) (fun _ => 0) (fun _ => 0) SET0 (fun _ => 0) (fun _ => 0) (fun _ => 0) (fun _ => 0) SET0 tG (Or.inl rfl)) ⟨(callB_of 0 hts (gG kw_693) rfl rfl rfl (hts _ (gw kw_1 rfl)) (hts _ (gw kw_690 rfl)) (by decide +kernel) ⟨Nat.le_of_ble_eq_true rfl, Nat.le_of_ble_eq_true rfl⟩), (hts _ (gw kw_691 rfl)), (hts _ (gw kw_692 rfl))⟩ ⟨fun a U g mk q => by obtain ⟨q0, q1, qP, qK, qD, qN, z0, z1⟩ := q; exact ⟨q0, q1, qP, va_K.moved (u := U) (U := U.calling g mk a) (Vm.Alike.refl U.vm) qK, qD, NX.same (u := U) (U := U.calling g mk a) rfl qN, va_Z.moved (u := U) (U := U.calling g mk a) (Vm.Alike.refl U.vm) z0, va_T.moved (u := U) (U := U.calling g mk a) (Vm.Alike.refl U.vm) z1⟩, va_recv hK hPc (ci := 11) (q0 := 0) rfl rfl, fun U hU hW => ⟨rfl, by rw [hU], by rw [hU]; exact hPc, va_K.moved hW.alike hK, hDc.weaken (fun _ _ _ _ => trivial), NX.warm hW hN, by rw [hU]; exact va_Z.moved hW.alike (va_Z.narrow (va_Z.kept hZG hS.2.1) hFc), by rw [hU]; exact va_T.moved hW.alike (va_T.narrow (va_T.kept hTG hS.2.1) hFc)⟩⟩ rfl rfl hl.1 rfl (lv_room (Nat.le_of_ble_eq_true rfl)) dL_law_860 ⟨Nat.le_of_ble_eq_true rfl, Nat.le_of_ble_eq_true rfl⟩) hS (fun q _ h => hFc q h) hFc (fun x_499 u t H1 locs ht hvm hw_499 hB hz1 hk1 hS => ?_)
      obtain ⟨hP1, hK1, hD1⟩ := hB
      rw [ht] at hP1
      clear hK1
      try dsimp only at hw_499
      obtain ⟨hP, hD⟩ := va_join (wr := [(q_31, .inr (12, [.ref q_34, .ref q_35, .ref q_36, .ref q_37, .ref q_38, .ref q_39, .int 0, .int 0, .int 0, .ref q_40, .ref q_41, .ref q_42, .ref q_43, .int 0, .int 0, .int 0, .ref q_44, .int 0, .int 0, .int 0, .ref q_45, .ref q_46, .ref q_47, .ref q_48, .ref q_49, .ref q_50, .ref q_51, .ref q_52, .int 0, .ref q_53, .ref q_54, .ref q_55, .ref q_56])), (q_35, .inl (aC 0, 9, .inl (fun _ => 0))), (q_36, .inl (aC 0, 9, .inl (fun _ => 0))), (q_37, .inl (aC 0, 9, .inl (fun _ => 0))), (q_38, .inl (aC 0, 8, .inl (fun _ => 0))), (q_39, .inl (aC 0, 5, .inl SET0)), (q_44, .inl (aC 0, 100, .inl (fun _ => 0)))]) (w1 := []) hP hD [0, 7, 8, 9, 10, 11, 12, 1, 2, 3, 4, 5, 6] [13, 14, 15, 16, 17, 18, 19] rfl rfl (by decide) (by decide) hk1 hFc hP1 hD1
      generalize H1 = H at hP hS ⊢
      have hP : va_P (dC, dI) classes [(q_31, .inr (12, [.ref q_34, .ref q_35, .ref q_36, .ref q_37, .ref q_38, .ref q_39, .int 0, .int 0, .int 0, .ref q_40, .ref q_41, .ref q_42, .ref q_43, .int 0, .int 0, .int 0, .ref q_44, .int 0, .int 0, .int 0, .ref q_45, .ref q_46, .ref q_47, .ref q_48, .ref q_49, .ref q_50, .ref q_51, .ref q_52, .int 0, .ref q_53, .ref q_54, .ref q_55, .ref q_56])), (q_35, .inl (aC 0, 9, .inl (fun _ => 0))), (q_36, .inl (aC 0, 9, .inl (fun _ => 0))), (q_37, .inl (aC 0, 9, .inl (fun _ => 0))), (q_38, .inl (aC 0, 8, .inl (fun _ => 0))), (q_39, .inl (aC 0, 5, .inl SET0)), (q_44, .inl (aC 0, 100, .inl (fun _ => 0)))] H := hP
      have hD : va_D A [(q_31, .inr (12, [.ref q_34, .ref q_35, .ref q_36, .ref q_37, .ref q_38, .ref q_39, .int 0, .int 0, .int 0, .ref q_40, .ref q_41, .ref q_42, .ref q_43, .int 0, .int 0, .int 0, .ref q_44, .int 0, .int 0, .int 0, .ref q_45, .ref q_46, .ref q_47, .ref q_48, .ref q_49, .ref q_50, .ref q_51, .ref q_52, .int 0, .ref q_53, .ref q_54, .ref q_55, .ref q_56])), (q_35, .inl (aC 0, 9, .inl (fun _ => 0))), (q_36, .inl (aC 0, 9, .inl (fun _ => 0))), (q_37, .inl (aC 0, 9, .inl (fun _ => 0))), (q_38, .inl (aC 0, 8, .inl (fun _ => 0))), (q_39, .inl (aC 0, 5, .inl SET0)), (q_44, .inl (aC 0, 100, .inl (fun _ => 0)))] := hD
      clear hPc hDc hFc hz1 hk1 hP1 hD1 ht hvm
      refine lv_aload_n hx hb dL_law_863 rfl (lv_at hl 1 rfl) ?_
      have hPc := hP.sub (ws' := [(q_31, .inr (12, [.ref q_34, .ref q_35, .ref q_36, .ref q_37, .ref q_38, .ref q_39, .int 0, .int 0, .int 0, .ref q_40, .ref q_41, .ref q_42, .ref q_43, .int 0, .int 0, .int 0, .ref q_44, .int 0, .int 0, .int 0, .ref q_45, .ref q_46, .ref q_47, .ref q_48, .ref q_49, .ref q_50, .ref q_51, .ref q_52, .int 0, .ref q_53, .ref q_54, .ref q_55, .ref q_56])), (q_44, .inl (aC 0, 100, .inl (fun _ => 0))), (q_35, .inl (aC 0, 9, .inl (fun _ => 0))), (q_36, .inl (aC 0, 9, .inl (fun _ => 0))), (q_37, .inl (aC 0, 9, .inl (fun _ => 0))), (q_38, .inl (aC 0, 8, .inl (fun _ => 0))), (q_39, .inl (aC 0, 5, .inl SET0))]) [0, 6, 1, 2, 3, 4, 5] rfl
      have hDc := hD.sub (ws' := [(q_31, .inr (12, [.ref q_34, .ref q_35, .ref q_36, .ref q_37, .ref q_38, .ref q_39, .int 0, .int 0, .int 0, .ref q_40, .ref q_41, .ref q_42, .ref q_43, .int 0, .int 0, .int 0, .ref q_44, .int 0, .int 0, .int 0, .ref q_45, .ref q_46, .ref q_47, .ref q_48, .ref q_49, .ref q_50, .ref q_51, .ref q_52, .int 0, .ref q_53, .ref q_54, .ref q_55, .ref q_56])), (q_44, .inl (aC 0, 100, .inl (fun _ => 0))), (q_35, .inl (aC 0, 9, .inl (fun _ => 0))), (q_36, .inl (aC 0, 9, .inl (fun _ => 0))), (q_37, .inl (aC 0, 9, .inl (fun _ => 0))), (q_38, .inl (aC 0, 8, .inl (fun _ => 0))), (q_39, .inl (aC 0, 5, .inl SET0))]) [0, 6, 1, 2, 3, 4, 5] (by decide) rfl
      have hFc := va_free (wc := [(q_31, .inr (12, [.ref q_34, .ref q_35, .ref q_36, .ref q_37, .ref q_38, .ref q_39, .int 0, .int 0, .int 0, .ref q_40, .ref q_41, .ref q_42, .ref q_43, .int 0, .int 0, .int 0, .ref q_44, .int 0, .int 0, .int 0, .ref q_45, .ref q_46, .ref q_47, .ref q_48, .ref q_49, .ref q_50, .ref q_51, .ref q_52, .int 0, .ref q_53, .ref q_54, .ref q_55, .ref q_56])), (q_44, .inl (aC 0, 100, .inl (fun _ => 0))), (q_35, .inl (aC 0, 9, .inl (fun _ => 0))), (q_36, .inl (aC 0, 9, .inl (fun _ => 0))), (q_37, .inl (aC 0, 9, .inl (fun _ => 0))), (q_38, .inl (aC 0, 8, .inl (fun _ => 0))), (q_39, .inl (aC 0, 5, .inl SET0))]) hD hS hA [0, 6, 1, 2, 3, 4, 5] rfl
      refine va_calli (va_runV (As := []) (rest := [.int x_499]) ⟨hx, hb, hml, hown, hts⟩ (c_X12_image_0 l dC dI aC H.size q_31 q_34 q_35 q_36 q_37 q_38 q_39 q_40 q_41 q_42 q_43 q_44 q_45 q_46 q_47 q_48 q_49 q_50 q_51 q_52 q_53 q_54 q_55 q_56 0 0 0 0 0 0 0 0 0 0 (fun _ => 0) (fun _ => 0) (fun _ => 0) (fun _ => 0) (fun _ => 0) SET0 ) ⟨(callB_of 0 hts (gG kw_866) rfl rfl rfl (hts _ (gw kw_13 rfl)) (hts _ (gw kw_863 rfl)) (by decide +kernel) ⟨Nat.le_of_ble_eq_true rfl, Nat.le_of_ble_eq_true rfl⟩), (hts _ (gw kw_864 rfl)), (hts _ (gw kw_865 rfl))⟩ ⟨fun a U g mk q => by obtain ⟨q0, q1, qP, qK, qD, qN⟩ := q; exact ⟨q0, q1, qP, va_K.moved (u := U) (U := U.calling g mk a) (Vm.Alike.refl U.vm) qK, qD, NX.same (u := U) (U := U.calling g mk a) rfl qN⟩, va_recv hK hPc (ci := 12) (q0 := 0) rfl rfl, fun U hU hW => ⟨rfl, by rw [hU], by rw [hU]; exact hPc, va_K.moved hW.alike hK, hDc.weaken (fun _ _ _ _ => trivial), NX.warm hW hN⟩⟩ rfl rfl hl.1 rfl (lv_room (Nat.le_of_ble_eq_true rfl)) dL_law_864 ⟨Nat.le_of_ble_eq_true rfl, Nat.le_of_ble_eq_true rfl⟩) hS (fun q _ h => hFc q h) hFc (fun x_500 u t H1 locs ht hvm hw_500 hB hz1 hk1 hS => ?_)
      obtain ⟨hP1, hK1, hD1⟩ := hB
      rw [ht] at hP1
      clear hK1
      try dsimp only at hw_500
      obtain ⟨hP, hD⟩ := va_join (wr := []) (w1 := []) hP hD [0, 6, 1, 2, 3, 4, 5] [] rfl rfl (by decide) (by decide) hk1 hFc hP1 hD1
      generalize H1 = H at hP hS ⊢
      have hP : va_P (dC, dI) classes [] H := hP
      have hD : va_D A [] := hD
      clear hPc hDc hFc hz1 hk1 hP1 hD1 ht hvm
      refine lv_icmp_eq (tgt := 908) hx hb dL_law_867 (by decide) (fun c_501 => ?_) (fun c_501 => ?_)
      · obtain ⟨x_502, e_502⟩ : ∃ y : Int32, y = 0 + 5 := ⟨_, rfl⟩
        refine lv_iinc (v := x_502) (lv' := [(3, .int x_502), (2, .ref q_31), (1, .ref q_1), (0, .ref b)]) hx hb dL_law_908 hl (k := 0) rfl (by rw [e_502]; rfl) (by decide) rfl (fun ls hl => ?_)
        have h9 : x_502 = 5 := by rw [e_502]; decide
        subst h9
        refine lv_goto (tgt := 18) hx hb dL_law_911 (by decide) ?_
        refine lv_iload_n hx hb dL_law_18 rfl (lv_at hl 0 rfl) ?_
        refine lv_aload_n hx hb dL_law_19 rfl (lv_at hl 3 rfl) ?_
        refine va_slen hx hb hX hbl hbA hS dL_law_20 ?_
        refine lv_topi (fun x_503 e_503 => ?_)
        refine lv_iconst (v := 5) hx hb dL_law_21 (by decide) ?_
        refine lv_isub hx hb dL_law_22 ?_
        refine lv_topi (fun x_504 e_504 => ?_)
        refine lv_icmp_gt (tgt := 914) hx hb dL_law_23 (by decide) (fun c_505 => ?_) (fun c_505 => ?_)
        · refine lv_iconst (v := 1) hx hb dL_law_914 (by decide) ?_
          refine va_forget (fun q hq => by have := hS.2.2 q hq; rw [hAe] at this; exact this) ?_
          refine W.widen (k := 600000) (n := 7302250) (Nat.le_of_ble_eq_true rfl) (Nat.le_of_ble_eq_true rfl) ?_
          exact lw_ret hx hb hr hlocks dL_law_915
        · exact absurd (by rw [e_504, e_503]; decide) c_505
      · exact absurd (by rw [hw_499, hw_500]) c_501
    by_cases c_506 : x_62 = 27
    · refine lv_tableIn (tgt := 872) hx hb dL_law_32 (by rw [c_506]; decide) (by rw [c_506]; decide) (by rw [c_506]; rfl) (by decide) ?_
      have hP : va_P (dC, dI) classes [(q_1, .inr (11, [.ref q_5, .ref q_6, .ref q_7, .ref q_8, .ref q_9, .ref q_10, .ref q_11, .ref q_12, .ref q_13, .ref q_14, .ref q_15, .int 0, .int 0, .int 1])), (q_14, .inl (aC 0, 7, .inl (fun _ => 0))), (q_31, .inr (12, [.ref q_34, .ref q_35, .ref q_36, .ref q_37, .ref q_38, .ref q_39, .int 0, .int 0, .int 0, .ref q_40, .ref q_41, .ref q_42, .ref q_43, .int 0, .int 0, .int 0, .ref q_44, .int 0, .int 0, .int 0, .ref q_45, .ref q_46, .ref q_47, .ref q_48, .ref q_49, .ref q_50, .ref q_51, .ref q_52, .int 0, .ref q_53, .ref q_54, .ref q_55, .ref q_56])), (q_34, .inl (aC 0, 7, .inl (fun _ => 0)))] H := hP.sub [0, 21, 22, 23] rfl
      have hD : va_D A [(q_1, .inr (11, [.ref q_5, .ref q_6, .ref q_7, .ref q_8, .ref q_9, .ref q_10, .ref q_11, .ref q_12, .ref q_13, .ref q_14, .ref q_15, .int 0, .int 0, .int 1])), (q_14, .inl (aC 0, 7, .inl (fun _ => 0))), (q_31, .inr (12, [.ref q_34, .ref q_35, .ref q_36, .ref q_37, .ref q_38, .ref q_39, .int 0, .int 0, .int 0, .ref q_40, .ref q_41, .ref q_42, .ref q_43, .int 0, .int 0, .int 0, .ref q_44, .int 0, .int 0, .int 0, .ref q_45, .ref q_46, .ref q_47, .ref q_48, .ref q_49, .ref q_50, .ref q_51, .ref q_52, .int 0, .ref q_53, .ref q_54, .ref q_55, .ref q_56])), (q_34, .inl (aC 0, 7, .inl (fun _ => 0)))] := hD.sub [0, 21, 22, 23] (by decide) rfl
      refine lv_aload_n hx hb dL_law_872 rfl (lv_at hl 2 rfl) ?_
      have hPc := hP.sub (ws' := [(q_1, .inr (11, [.ref q_5, .ref q_6, .ref q_7, .ref q_8, .ref q_9, .ref q_10, .ref q_11, .ref q_12, .ref q_13, .ref q_14, .ref q_15, .int 0, .int 0, .int 1])), (q_14, .inl (aC 0, 7, .inl (fun _ => 0)))]) [0, 1] rfl
      have hDc := hD.sub (ws' := [(q_1, .inr (11, [.ref q_5, .ref q_6, .ref q_7, .ref q_8, .ref q_9, .ref q_10, .ref q_11, .ref q_12, .ref q_13, .ref q_14, .ref q_15, .int 0, .int 0, .int 1])), (q_14, .inl (aC 0, 7, .inl (fun _ => 0)))]) [0, 1] (by decide) rfl
      have hFc := va_free (wc := [(q_1, .inr (11, [.ref q_5, .ref q_6, .ref q_7, .ref q_8, .ref q_9, .ref q_10, .ref q_11, .ref q_12, .ref q_13, .ref q_14, .ref q_15, .int 0, .int 0, .int 1])), (q_14, .inl (aC 0, 7, .inl (fun _ => 0)))]) hD hS hA [0, 1] rfl
      refine va_calli (va_runV (As := []) (rest := []) ⟨hx, hb, hml, hown, hts⟩ (c_X11_restore_r l dC dI aC H.size q_1 q_5 q_6 q_7 q_8 q_9 q_10 q_11 q_12 q_13 q_14 q_15 0 1 (fun _ => 0) ) ⟨(callB_of 0 hts (gG kw_697) rfl rfl rfl (hts _ (gw kw_1 rfl)) (hts _ (gw kw_694 rfl)) (by decide +kernel) ⟨Nat.le_of_ble_eq_true rfl, Nat.le_of_ble_eq_true rfl⟩), (hts _ (gw kw_695 rfl)), (hts _ (gw kw_696 rfl))⟩ ⟨fun a U g mk q => by obtain ⟨q0, q1, qP, qK, qD, qN⟩ := q; exact ⟨q0, q1, qP, va_K.moved (u := U) (U := U.calling g mk a) (Vm.Alike.refl U.vm) qK, qD, NX.same (u := U) (U := U.calling g mk a) rfl qN⟩, va_recv hK hPc (ci := 11) (q0 := 0) rfl rfl, fun U hU hW => ⟨rfl, by rw [hU], by rw [hU]; exact hPc, va_K.moved hW.alike hK, hDc.weaken (fun _ _ _ _ => trivial), NX.warm hW hN⟩⟩ rfl rfl hl.1 rfl (lv_room (Nat.le_of_ble_eq_true rfl)) dL_law_873 ⟨Nat.le_of_ble_eq_true rfl, Nat.le_of_ble_eq_true rfl⟩) hS (fun q _ h => hFc q h) hFc (fun x_507 u t H1 locs ht hvm hw_507 hB hz1 hk1 hS => ?_)
      obtain ⟨hP1, hK1, hD1⟩ := hB
      rw [ht] at hP1
      clear hK1
      try dsimp only at hw_507
      obtain ⟨hP, hD⟩ := va_join (wr := [(q_31, .inr (12, [.ref q_34, .ref q_35, .ref q_36, .ref q_37, .ref q_38, .ref q_39, .int 0, .int 0, .int 0, .ref q_40, .ref q_41, .ref q_42, .ref q_43, .int 0, .int 0, .int 0, .ref q_44, .int 0, .int 0, .int 0, .ref q_45, .ref q_46, .ref q_47, .ref q_48, .ref q_49, .ref q_50, .ref q_51, .ref q_52, .int 0, .ref q_53, .ref q_54, .ref q_55, .ref q_56])), (q_34, .inl (aC 0, 7, .inl (fun _ => 0)))]) (w1 := []) hP hD [0, 1] [2, 3] rfl rfl (by decide) (by decide) hk1 hFc hP1 hD1
      generalize H1 = H at hP hS ⊢
      have hP : va_P (dC, dI) classes [(q_31, .inr (12, [.ref q_34, .ref q_35, .ref q_36, .ref q_37, .ref q_38, .ref q_39, .int 0, .int 0, .int 0, .ref q_40, .ref q_41, .ref q_42, .ref q_43, .int 0, .int 0, .int 0, .ref q_44, .int 0, .int 0, .int 0, .ref q_45, .ref q_46, .ref q_47, .ref q_48, .ref q_49, .ref q_50, .ref q_51, .ref q_52, .int 0, .ref q_53, .ref q_54, .ref q_55, .ref q_56])), (q_34, .inl (aC 0, 7, .inl (fun _ => 0)))] H := hP
      have hD : va_D A [(q_31, .inr (12, [.ref q_34, .ref q_35, .ref q_36, .ref q_37, .ref q_38, .ref q_39, .int 0, .int 0, .int 0, .ref q_40, .ref q_41, .ref q_42, .ref q_43, .int 0, .int 0, .int 0, .ref q_44, .int 0, .int 0, .int 0, .ref q_45, .ref q_46, .ref q_47, .ref q_48, .ref q_49, .ref q_50, .ref q_51, .ref q_52, .int 0, .ref q_53, .ref q_54, .ref q_55, .ref q_56])), (q_34, .inl (aC 0, 7, .inl (fun _ => 0)))] := hD
      clear hPc hDc hFc hz1 hk1 hP1 hD1 ht hvm
      refine lv_aload_n hx hb dL_law_876 rfl (lv_at hl 1 rfl) ?_
      have hPc := hP.sub (ws' := [(q_31, .inr (12, [.ref q_34, .ref q_35, .ref q_36, .ref q_37, .ref q_38, .ref q_39, .int 0, .int 0, .int 0, .ref q_40, .ref q_41, .ref q_42, .ref q_43, .int 0, .int 0, .int 0, .ref q_44, .int 0, .int 0, .int 0, .ref q_45, .ref q_46, .ref q_47, .ref q_48, .ref q_49, .ref q_50, .ref q_51, .ref q_52, .int 0, .ref q_53, .ref q_54, .ref q_55, .ref q_56])), (q_34, .inl (aC 0, 7, .inl (fun _ => 0)))]) [0, 1] rfl
      have hDc := hD.sub (ws' := [(q_31, .inr (12, [.ref q_34, .ref q_35, .ref q_36, .ref q_37, .ref q_38, .ref q_39, .int 0, .int 0, .int 0, .ref q_40, .ref q_41, .ref q_42, .ref q_43, .int 0, .int 0, .int 0, .ref q_44, .int 0, .int 0, .int 0, .ref q_45, .ref q_46, .ref q_47, .ref q_48, .ref q_49, .ref q_50, .ref q_51, .ref q_52, .int 0, .ref q_53, .ref q_54, .ref q_55, .ref q_56])), (q_34, .inl (aC 0, 7, .inl (fun _ => 0)))]) [0, 1] (by decide) rfl
      have hFc := va_free (wc := [(q_31, .inr (12, [.ref q_34, .ref q_35, .ref q_36, .ref q_37, .ref q_38, .ref q_39, .int 0, .int 0, .int 0, .ref q_40, .ref q_41, .ref q_42, .ref q_43, .int 0, .int 0, .int 0, .ref q_44, .int 0, .int 0, .int 0, .ref q_45, .ref q_46, .ref q_47, .ref q_48, .ref q_49, .ref q_50, .ref q_51, .ref q_52, .int 0, .ref q_53, .ref q_54, .ref q_55, .ref q_56])), (q_34, .inl (aC 0, 7, .inl (fun _ => 0)))]) hD hS hA [0, 1] rfl
      refine va_calli (va_runV (As := []) (rest := [.int x_507]) ⟨hx, hb, hml, hown, hts⟩ (c_X12_restore_r l dC dI aC H.size q_31 q_34 q_35 q_36 q_37 q_38 q_39 q_40 q_41 q_42 q_43 q_44 q_45 q_46 q_47 q_48 q_49 q_50 q_51 q_52 q_53 q_54 q_55 q_56 0 0 0 0 0 0 0 0 0 (fun _ => 0) ) ⟨(callB_of 0 hts (gG kw_870) rfl rfl rfl (hts _ (gw kw_13 rfl)) (hts _ (gw kw_867 rfl)) (by decide +kernel) ⟨Nat.le_of_ble_eq_true rfl, Nat.le_of_ble_eq_true rfl⟩), (hts _ (gw kw_868 rfl)), (hts _ (gw kw_869 rfl))⟩ ⟨fun a U g mk q => by obtain ⟨q0, q1, qP, qK, qD, qN⟩ := q; exact ⟨q0, q1, qP, va_K.moved (u := U) (U := U.calling g mk a) (Vm.Alike.refl U.vm) qK, qD, NX.same (u := U) (U := U.calling g mk a) rfl qN⟩, va_recv hK hPc (ci := 12) (q0 := 0) rfl rfl, fun U hU hW => ⟨rfl, by rw [hU], by rw [hU]; exact hPc, va_K.moved hW.alike hK, hDc.weaken (fun _ _ _ _ => trivial), NX.warm hW hN⟩⟩ rfl rfl hl.1 rfl (lv_room (Nat.le_of_ble_eq_true rfl)) dL_law_877 ⟨Nat.le_of_ble_eq_true rfl, Nat.le_of_ble_eq_true rfl⟩) hS (fun q _ h => hFc q h) hFc (fun x_508 u t H1 locs ht hvm hw_508 hB hz1 hk1 hS => ?_)
      obtain ⟨hP1, hK1, hD1⟩ := hB
      rw [ht] at hP1
      clear hK1
      try dsimp only at hw_508
      obtain ⟨hP, hD⟩ := va_join (wr := []) (w1 := []) hP hD [0, 1] [] rfl rfl (by decide) (by decide) hk1 hFc hP1 hD1
      generalize H1 = H at hP hS ⊢
      have hP : va_P (dC, dI) classes [] H := hP
      have hD : va_D A [] := hD
      clear hPc hDc hFc hz1 hk1 hP1 hD1 ht hvm
      refine lv_icmp_eq (tgt := 908) hx hb dL_law_880 (by decide) (fun c_509 => ?_) (fun c_509 => ?_)
      · obtain ⟨x_510, e_510⟩ : ∃ y : Int32, y = 0 + 5 := ⟨_, rfl⟩
        refine lv_iinc (v := x_510) (lv' := [(3, .int x_510), (2, .ref q_31), (1, .ref q_1), (0, .ref b)]) hx hb dL_law_908 hl (k := 0) rfl (by rw [e_510]; rfl) (by decide) rfl (fun ls hl => ?_)
        have h9 : x_510 = 5 := by rw [e_510]; decide
        subst h9
        refine lv_goto (tgt := 18) hx hb dL_law_911 (by decide) ?_
        refine lv_iload_n hx hb dL_law_18 rfl (lv_at hl 0 rfl) ?_
        refine lv_aload_n hx hb dL_law_19 rfl (lv_at hl 3 rfl) ?_
        refine va_slen hx hb hX hbl hbA hS dL_law_20 ?_
        refine lv_topi (fun x_511 e_511 => ?_)
        refine lv_iconst (v := 5) hx hb dL_law_21 (by decide) ?_
        refine lv_isub hx hb dL_law_22 ?_
        refine lv_topi (fun x_512 e_512 => ?_)
        refine lv_icmp_gt (tgt := 914) hx hb dL_law_23 (by decide) (fun c_513 => ?_) (fun c_513 => ?_)
        · refine lv_iconst (v := 1) hx hb dL_law_914 (by decide) ?_
          refine va_forget (fun q hq => by have := hS.2.2 q hq; rw [hAe] at this; exact this) ?_
          refine W.widen (k := 600000) (n := 7302250) (Nat.le_of_ble_eq_true rfl) (Nat.le_of_ble_eq_true rfl) ?_
          exact lw_ret hx hb hr hlocks dL_law_915
        · exact absurd (by rw [e_512, e_511]; decide) c_513
      · exact absurd (by rw [hw_507, hw_508]) c_509
    by_cases c_514 : x_62 = 28
    · refine lv_tableIn (tgt := 885) hx hb dL_law_32 (by rw [c_514]; decide) (by rw [c_514]; decide) (by rw [c_514]; rfl) (by decide) ?_
      have hP : va_P (dC, dI) classes [(q_1, .inr (11, [.ref q_5, .ref q_6, .ref q_7, .ref q_8, .ref q_9, .ref q_10, .ref q_11, .ref q_12, .ref q_13, .ref q_14, .ref q_15, .int 0, .int 0, .int 1])), (q_7, .inr (4, [.ref q_16, .ref q_17, .ref q_18, .ref q_19, .ref q_20, .int 0, .int 0, .int 0])), (q_10, .inr (7, [.int 0, .ref q_26])), (q_14, .inl (aC 0, 7, .inl (fun _ => 0))), (q_31, .inr (12, [.ref q_34, .ref q_35, .ref q_36, .ref q_37, .ref q_38, .ref q_39, .int 0, .int 0, .int 0, .ref q_40, .ref q_41, .ref q_42, .ref q_43, .int 0, .int 0, .int 0, .ref q_44, .int 0, .int 0, .int 0, .ref q_45, .ref q_46, .ref q_47, .ref q_48, .ref q_49, .ref q_50, .ref q_51, .ref q_52, .int 0, .ref q_53, .ref q_54, .ref q_55, .ref q_56])), (q_34, .inl (aC 0, 7, .inl (fun _ => 0)))] H := hP.sub [0, 1, 13, 21, 22, 23] rfl
      have hD : va_D A [(q_1, .inr (11, [.ref q_5, .ref q_6, .ref q_7, .ref q_8, .ref q_9, .ref q_10, .ref q_11, .ref q_12, .ref q_13, .ref q_14, .ref q_15, .int 0, .int 0, .int 1])), (q_7, .inr (4, [.ref q_16, .ref q_17, .ref q_18, .ref q_19, .ref q_20, .int 0, .int 0, .int 0])), (q_10, .inr (7, [.int 0, .ref q_26])), (q_14, .inl (aC 0, 7, .inl (fun _ => 0))), (q_31, .inr (12, [.ref q_34, .ref q_35, .ref q_36, .ref q_37, .ref q_38, .ref q_39, .int 0, .int 0, .int 0, .ref q_40, .ref q_41, .ref q_42, .ref q_43, .int 0, .int 0, .int 0, .ref q_44, .int 0, .int 0, .int 0, .ref q_45, .ref q_46, .ref q_47, .ref q_48, .ref q_49, .ref q_50, .ref q_51, .ref q_52, .int 0, .ref q_53, .ref q_54, .ref q_55, .ref q_56])), (q_34, .inl (aC 0, 7, .inl (fun _ => 0)))] := hD.sub [0, 1, 13, 21, 22, 23] (by decide) rfl
      refine lv_aload_n hx hb dL_law_885 rfl (lv_at hl 2 rfl) ?_
      refine lv_aload_n hx hb dL_law_886 rfl (lv_at hl 3 rfl) ?_
      refine lv_iload_n hx hb dL_law_887 rfl (lv_at hl 0 rfl) ?_
      refine lv_iconst (v := 1) hx hb dL_law_888 (by decide) ?_
      refine lv_iadd hx hb dL_law_889 ?_
      refine lv_topi (fun x_515 e_515 => ?_)
      have h9 : x_515 = 1 := by rw [e_515]; decide
      subst h9
      have h_516 : vp_in 1 5 := by first | assumption | (unfold vp_in; decide) | exact vp_in_nI (by omega) (by omega) | (subst_vars; first | (unfold vp_in; decide) | exact vp_in_nI (by omega) (by omega))
      refine va_sld hx hb hX hbl hbA hS h_516 dL_law_890 ?_
      refine lv_topi (fun x_517 e_517 => ?_)
      have h9 : x_517 = (xs 1) := by rw [e_517]; rfl
      subst h9
      have hPc := hP.sub (ws' := [(q_1, .inr (11, [.ref q_5, .ref q_6, .ref q_7, .ref q_8, .ref q_9, .ref q_10, .ref q_11, .ref q_12, .ref q_13, .ref q_14, .ref q_15, .int 0, .int 0, .int 1])), (q_7, .inr (4, [.ref q_16, .ref q_17, .ref q_18, .ref q_19, .ref q_20, .int 0, .int 0, .int 0])), (q_10, .inr (7, [.int 0, .ref q_26])), (q_14, .inl (aC 0, 7, .inl (fun _ => 0)))]) [0, 1, 2, 3] rfl
      have hDc := hD.sub (ws' := [(q_1, .inr (11, [.ref q_5, .ref q_6, .ref q_7, .ref q_8, .ref q_9, .ref q_10, .ref q_11, .ref q_12, .ref q_13, .ref q_14, .ref q_15, .int 0, .int 0, .int 1])), (q_7, .inr (4, [.ref q_16, .ref q_17, .ref q_18, .ref q_19, .ref q_20, .int 0, .int 0, .int 0])), (q_10, .inr (7, [.int 0, .ref q_26])), (q_14, .inl (aC 0, 7, .inl (fun _ => 0)))]) [0, 1, 2, 3] (by decide) rfl
      have hFc := va_free (wc := [(q_1, .inr (11, [.ref q_5, .ref q_6, .ref q_7, .ref q_8, .ref q_9, .ref q_10, .ref q_11, .ref q_12, .ref q_13, .ref q_14, .ref q_15, .int 0, .int 0, .int 1])), (q_7, .inr (4, [.ref q_16, .ref q_17, .ref q_18, .ref q_19, .ref q_20, .int 0, .int 0, .int 0])), (q_10, .inr (7, [.int 0, .ref q_26])), (q_14, .inl (aC 0, 7, .inl (fun _ => 0)))]) hD hS hA [0, 1, 2, 3] rfl
      refine va_calli (va_runV (As := [.int (xs 1)]) (rest := []) ⟨hx, hb, hml, hown, hts⟩ (c_X11_count_0 l dC dI aC H.size q_1 q_5 q_6 q_7 q_8 q_9 q_10 q_11 q_12 q_13 q_14 q_15 0 1 q_16 q_17 q_18 q_19 q_20 (fun _ => 0) q_26 (xs 1) ) ⟨(callB_of 1 hts (gG kw_701) rfl rfl rfl (hts _ (gw kw_1 rfl)) (hts _ (gw kw_698 rfl)) (by decide +kernel) ⟨Nat.le_of_ble_eq_true rfl, Nat.le_of_ble_eq_true rfl⟩), (hts _ (gw kw_699 rfl)), (hts _ (gw kw_700 rfl))⟩ ⟨fun a U g mk q => by obtain ⟨q0, q1, qP, qK, qD, qN⟩ := q; exact ⟨q0, q1, qP, va_K.moved (u := U) (U := U.calling g mk a) (Vm.Alike.refl U.vm) qK, qD, NX.same (u := U) (U := U.calling g mk a) rfl qN⟩, va_recv hK hPc (ci := 11) (q0 := 0) rfl rfl, fun U hU hW => ⟨rfl, by rw [hU], by rw [hU]; exact hPc, va_K.moved hW.alike hK, hDc.weaken (fun _ _ _ _ => trivial), NX.warm hW hN⟩⟩ rfl rfl hl.1 rfl (lv_room (Nat.le_of_ble_eq_true rfl)) dL_law_891 ⟨Nat.le_of_ble_eq_true rfl, Nat.le_of_ble_eq_true rfl⟩) hS (fun q _ h => hFc q h) hFc (fun x_518 u t H1 locs ht hvm hw_518 hB hz1 hk1 hS => ?_)
      obtain ⟨hP1, hK1, hD1⟩ := hB
      rw [ht] at hP1
      clear hK1
      try dsimp only at hw_518
      obtain ⟨hP, hD⟩ := va_join (wr := [(q_31, .inr (12, [.ref q_34, .ref q_35, .ref q_36, .ref q_37, .ref q_38, .ref q_39, .int 0, .int 0, .int 0, .ref q_40, .ref q_41, .ref q_42, .ref q_43, .int 0, .int 0, .int 0, .ref q_44, .int 0, .int 0, .int 0, .ref q_45, .ref q_46, .ref q_47, .ref q_48, .ref q_49, .ref q_50, .ref q_51, .ref q_52, .int 0, .ref q_53, .ref q_54, .ref q_55, .ref q_56])), (q_34, .inl (aC 0, 7, .inl (fun _ => 0)))]) (w1 := []) hP hD [0, 1, 2, 3] [4, 5] rfl rfl (by decide) (by decide) hk1 hFc hP1 hD1
      generalize H1 = H at hP hS ⊢
      have hP : va_P (dC, dI) classes [(q_31, .inr (12, [.ref q_34, .ref q_35, .ref q_36, .ref q_37, .ref q_38, .ref q_39, .int 0, .int 0, .int 0, .ref q_40, .ref q_41, .ref q_42, .ref q_43, .int 0, .int 0, .int 0, .ref q_44, .int 0, .int 0, .int 0, .ref q_45, .ref q_46, .ref q_47, .ref q_48, .ref q_49, .ref q_50, .ref q_51, .ref q_52, .int 0, .ref q_53, .ref q_54, .ref q_55, .ref q_56])), (q_34, .inl (aC 0, 7, .inl (fun _ => 0)))] H := hP
      have hD : va_D A [(q_31, .inr (12, [.ref q_34, .ref q_35, .ref q_36, .ref q_37, .ref q_38, .ref q_39, .int 0, .int 0, .int 0, .ref q_40, .ref q_41, .ref q_42, .ref q_43, .int 0, .int 0, .int 0, .ref q_44, .int 0, .int 0, .int 0, .ref q_45, .ref q_46, .ref q_47, .ref q_48, .ref q_49, .ref q_50, .ref q_51, .ref q_52, .int 0, .ref q_53, .ref q_54, .ref q_55, .ref q_56])), (q_34, .inl (aC 0, 7, .inl (fun _ => 0)))] := hD
      clear hPc hDc hFc hz1 hk1 hP1 hD1 ht hvm
      refine lv_aload_n hx hb dL_law_894 rfl (lv_at hl 1 rfl) ?_
      refine lv_aload_n hx hb dL_law_895 rfl (lv_at hl 3 rfl) ?_
      refine lv_iload_n hx hb dL_law_896 rfl (lv_at hl 0 rfl) ?_
      refine lv_iconst (v := 1) hx hb dL_law_897 (by decide) ?_
      refine lv_iadd hx hb dL_law_898 ?_
      refine lv_topi (fun x_519 e_519 => ?_)
      have h9 : x_519 = 1 := by rw [e_519]; decide
      subst h9
      have h_520 : vp_in 1 5 := by first | assumption | (unfold vp_in; decide) | exact vp_in_nI (by omega) (by omega) | (subst_vars; first | (unfold vp_in; decide) | exact vp_in_nI (by omega) (by omega))
      refine va_sld hx hb hX hbl hbA hS h_520 dL_law_899 ?_
      refine lv_topi (fun x_521 e_521 => ?_)
      have h9 : x_521 = (xs 1) := by rw [e_521]; rfl
      subst h9
      have hPc := hP.sub (ws' := [(q_31, .inr (12, [.ref q_34, .ref q_35, .ref q_36, .ref q_37, .ref q_38, .ref q_39, .int 0, .int 0, .int 0, .ref q_40, .ref q_41, .ref q_42, .ref q_43, .int 0, .int 0, .int 0, .ref q_44, .int 0, .int 0, .int 0, .ref q_45, .ref q_46, .ref q_47, .ref q_48, .ref q_49, .ref q_50, .ref q_51, .ref q_52, .int 0, .ref q_53, .ref q_54, .ref q_55, .ref q_56])), (q_34, .inl (aC 0, 7, .inl (fun _ => 0)))]) [0, 1] rfl
      have hDc := hD.sub (ws' := [(q_31, .inr (12, [.ref q_34, .ref q_35, .ref q_36, .ref q_37, .ref q_38, .ref q_39, .int 0, .int 0, .int 0, .ref q_40, .ref q_41, .ref q_42, .ref q_43, .int 0, .int 0, .int 0, .ref q_44, .int 0, .int 0, .int 0, .ref q_45, .ref q_46, .ref q_47, .ref q_48, .ref q_49, .ref q_50, .ref q_51, .ref q_52, .int 0, .ref q_53, .ref q_54, .ref q_55, .ref q_56])), (q_34, .inl (aC 0, 7, .inl (fun _ => 0)))]) [0, 1] (by decide) rfl
      have hFc := va_free (wc := [(q_31, .inr (12, [.ref q_34, .ref q_35, .ref q_36, .ref q_37, .ref q_38, .ref q_39, .int 0, .int 0, .int 0, .ref q_40, .ref q_41, .ref q_42, .ref q_43, .int 0, .int 0, .int 0, .ref q_44, .int 0, .int 0, .int 0, .ref q_45, .ref q_46, .ref q_47, .ref q_48, .ref q_49, .ref q_50, .ref q_51, .ref q_52, .int 0, .ref q_53, .ref q_54, .ref q_55, .ref q_56])), (q_34, .inl (aC 0, 7, .inl (fun _ => 0)))]) hD hS hA [0, 1] rfl
      refine va_calli (va_runV (As := [.int (xs 1)]) (rest := [.int x_518]) ⟨hx, hb, hml, hown, hts⟩ (c_X12_count_0 l dC dI aC H.size q_31 q_34 q_35 q_36 q_37 q_38 q_39 q_40 q_41 q_42 q_43 q_44 q_45 q_46 q_47 q_48 q_49 q_50 q_51 q_52 q_53 q_54 q_55 q_56 0 0 0 0 0 (fun _ => 0) (xs 1) ) ⟨(callB_of 1 hts (gG kw_1097) rfl rfl rfl (hts _ (gw kw_13 rfl)) (hts _ (gw kw_1094 rfl)) (by decide +kernel) ⟨Nat.le_of_ble_eq_true rfl, Nat.le_of_ble_eq_true rfl⟩), (hts _ (gw kw_1095 rfl)), (hts _ (gw kw_1096 rfl))⟩ ⟨fun a U g mk q => by obtain ⟨q0, q1, qP, qK, qD, qN⟩ := q; exact ⟨q0, q1, qP, va_K.moved (u := U) (U := U.calling g mk a) (Vm.Alike.refl U.vm) qK, qD, NX.same (u := U) (U := U.calling g mk a) rfl qN⟩, va_recv hK hPc (ci := 12) (q0 := 0) rfl rfl, fun U hU hW => ⟨rfl, by rw [hU], by rw [hU]; exact hPc, va_K.moved hW.alike hK, hDc.weaken (fun _ _ _ _ => trivial), NX.warm hW hN⟩⟩ rfl rfl hl.1 rfl (lv_room (Nat.le_of_ble_eq_true rfl)) dL_law_900 ⟨Nat.le_of_ble_eq_true rfl, Nat.le_of_ble_eq_true rfl⟩) hS (fun q _ h => hFc q h) hFc (fun x_522 u t H1 locs ht hvm hw_522 hB hz1 hk1 hS => ?_)
      obtain ⟨hP1, hK1, hD1⟩ := hB
      rw [ht] at hP1
      clear hK1
      try dsimp only at hw_522
      obtain ⟨hP, hD⟩ := va_join (wr := []) (w1 := []) hP hD [0, 1] [] rfl rfl (by decide) (by decide) hk1 hFc hP1 hD1
      generalize H1 = H at hP hS ⊢
      have hP : va_P (dC, dI) classes [] H := hP
      have hD : va_D A [] := hD
      clear hPc hDc hFc hz1 hk1 hP1 hD1 ht hvm
      refine lv_icmp_eq (tgt := 908) hx hb dL_law_903 (by decide) (fun c_523 => ?_) (fun c_523 => ?_)
      · obtain ⟨x_524, e_524⟩ : ∃ y : Int32, y = 0 + 5 := ⟨_, rfl⟩
        refine lv_iinc (v := x_524) (lv' := [(3, .int x_524), (2, .ref q_31), (1, .ref q_1), (0, .ref b)]) hx hb dL_law_908 hl (k := 0) rfl (by rw [e_524]; rfl) (by decide) rfl (fun ls hl => ?_)
        have h9 : x_524 = 5 := by rw [e_524]; decide
        subst h9
        refine lv_goto (tgt := 18) hx hb dL_law_911 (by decide) ?_
        refine lv_iload_n hx hb dL_law_18 rfl (lv_at hl 0 rfl) ?_
        refine lv_aload_n hx hb dL_law_19 rfl (lv_at hl 3 rfl) ?_
        refine va_slen hx hb hX hbl hbA hS dL_law_20 ?_
        refine lv_topi (fun x_525 e_525 => ?_)
        refine lv_iconst (v := 5) hx hb dL_law_21 (by decide) ?_
        refine lv_isub hx hb dL_law_22 ?_
        refine lv_topi (fun x_526 e_526 => ?_)
        refine lv_icmp_gt (tgt := 914) hx hb dL_law_23 (by decide) (fun c_527 => ?_) (fun c_527 => ?_)
        · refine lv_iconst (v := 1) hx hb dL_law_914 (by decide) ?_
          refine va_forget (fun q hq => by have := hS.2.2 q hq; rw [hAe] at this; exact this) ?_
          refine W.widen (k := 600000) (n := 7302250) (Nat.le_of_ble_eq_true rfl) (Nat.le_of_ble_eq_true rfl) ?_
          exact lw_ret hx hb hr hlocks dL_law_915
        · exact absurd (by rw [e_526, e_525]; decide) c_527
      · exact absurd ((hw_518.trans (cnt_eq _ _)).trans hw_522.symm) c_523
    refine lv_tableOut (tgt := 908) hx hb dL_law_32 (sw_out29 c_63 c_77 c_85 c_105 c_125 c_145 c_165 c_179 c_193 c_207 c_227 c_241 c_255 c_269 c_283 c_291 c_305 c_359 c_367 c_393 c_401 c_421 c_435 c_449 c_464 c_490 c_498 c_506 c_514) (by decide) ?_
    obtain ⟨x_528, e_528⟩ : ∃ y : Int32, y = 0 + 5 := ⟨_, rfl⟩
    refine lv_iinc (v := x_528) (lv' := [(3, .int x_528), (2, .ref q_31), (1, .ref q_1), (0, .ref b)]) hx hb dL_law_908 hl (k := 0) rfl (by rw [e_528]; rfl) (by decide) rfl (fun ls hl => ?_)
    have h9 : x_528 = 5 := by rw [e_528]; decide
    subst h9
    refine lv_goto (tgt := 18) hx hb dL_law_911 (by decide) ?_
    refine lv_iload_n hx hb dL_law_18 rfl (lv_at hl 0 rfl) ?_
    refine lv_aload_n hx hb dL_law_19 rfl (lv_at hl 3 rfl) ?_
    refine va_slen hx hb hX hbl hbA hS dL_law_20 ?_
    refine lv_topi (fun x_529 e_529 => ?_)
    refine lv_iconst (v := 5) hx hb dL_law_21 (by decide) ?_
    refine lv_isub hx hb dL_law_22 ?_
    refine lv_topi (fun x_530 e_530 => ?_)
    refine lv_icmp_gt (tgt := 914) hx hb dL_law_23 (by decide) (fun c_531 => ?_) (fun c_531 => ?_)
    · refine lv_iconst (v := 1) hx hb dL_law_914 (by decide) ?_
      refine va_forget (fun q hq => by have := hS.2.2 q hq; rw [hAe] at this; exact this) ?_
      refine W.widen (k := 600000) (n := 7302250) (Nat.le_of_ble_eq_true rfl) (Nat.le_of_ble_eq_true rfl) ?_
      exact lw_ret hx hb hr hlocks dL_law_915
    · exact absurd (by rw [e_530, e_529]; decide) c_531
