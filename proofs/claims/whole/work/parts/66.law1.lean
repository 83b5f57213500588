set_option maxHeartbeats 4000000 in
set_option maxRecDepth 100000 in
theorem c_Law_type_ok (l : Launch) (dC : Nat → ClassId) (dI : Nat → Nat → Nat) (sz : Nat) (cJ : ClassId) (cB : ClassId) (oN oI oT oW oR oP oM oE : Nat) (aI ni : Nat) (ci : Nat → Nat) (x1 x2 : Int64) (hy1 : ∀ k, k < 8 → ¬ nw_bad (nw_bk x1 k)) (hy2 : ∀ k, k < 8 → ¬ nw_bad (nw_bk x2 k)) (hroom : ni + nw_cnt (fun j => nw_bk x1 j ≠ 0) 8 + nw_cnt (fun j => nw_bk x2 j ≠ 0) 8 ≤ 60) (hci : ∀ j, ci j < 127) (aO : Nat) (o : Nat → Nat)  : Met l y_Law_type w_Law_type ({ frames := 3, cells := 0, slots := 0, locals := 70 }) (nw_Pw [.ref oN, .long x1, .long x2, .ref aO] (dC, dI) nw_cls [(cB, .byte), (cJ, .long)] [(oN, .inr (0, [.ref oI, .ref oT, .ref oW, .ref oR, .ref oP, .ref oM, .ref oE])), (oI, .inr (6, [.ref aI, .int (nI ni)])), (aI, nw_ai cB 60 ci), (aO, nw_al cJ 1 o)] sz) (va_Qi (fun (r : Int32) (u : Nat → Nat) => r = nI 0 ∧ ((fun (r : Int32) (u : Nat → Nat) => r = nI (ni + nw_cnt (fun j => nw_bk x1 j ≠ 0) 8 + nw_cnt (fun j => nw_bk x2 j ≠ 0) 8) ∧ (∀ j, j < ni → u j = ci j) ∧ (∀ i, i < 8 → nw_bk x1 i ≠ 0 → u (ni + nw_cnt (fun j => nw_bk x1 j ≠ 0) i) = nw_bk x1 i) ∧ (∀ i, i < 8 → nw_bk x2 i ≠ 0 → u (ni + nw_cnt (fun j => nw_bk x1 j ≠ 0) 8 + nw_cnt (fun j => nw_bk x2 j ≠ 0) i) = nw_bk x2 i) ∧ ∀ j, u j < 127)) (nI ((ni + nw_cnt (fun j => nw_bk x1 j ≠ 0) 8) + nw_cnt (fun j => nw_bk x2 j ≠ 0) 8)) u) (nw_B (dC, dI) nw_cls (va_A [(oN, .inr (0, [.ref oI, .ref oT, .ref oW, .ref oR, .ref oP, .ref oM, .ref oE])), (oI, .inr (6, [.ref aI, .int (nI ni)])), (aI, nw_ai cB 60 ci), (aO, nw_al cJ 1 o)] sz) (fun u => [(oN, .inr (0, [.ref oI, .ref oT, .ref oW, .ref oR, .ref oP, .ref oM, .ref oE])), (oI, .inr (6, [.ref aI, .int (nI ((ni + nw_cnt (fun j => nw_bk x1 j ≠ 0) 8) + nw_cnt (fun j => nw_bk x2 j ≠ 0) 8))])), (aI, nw_ai cB 60 u), (aO, nw_al cJ 1 (va_up o 0 ((ni + nw_cnt (fun j => nw_bk x1 j ≠ 0) 8) + nw_cnt (fun j => nw_bk x2 j ≠ 0) 8)))])) (va_A [(oN, .inr (0, [.ref oI, .ref oT, .ref oW, .ref oR, .ref oP, .ref oM, .ref oE])), (oI, .inr (6, [.ref aI, .int (nI ni)])), (aI, nw_ai cB 60 ci), (aO, nw_al cJ 1 o)] sz)) 0 0 (va_A [(oN, .inr (0, [.ref oI, .ref oT, .ref oW, .ref oR, .ref oP, .ref oM, .ref oE])), (oI, .inr (6, [.ref aI, .int (nI ni)])), (aI, nw_ai cB 60 ci), (aO, nw_al cJ 1 o)] sz) := by
  refine va_MetW (cc := b_Law_type) (maxL := 7) (ret := (some .int)) (hh := [(0, 11, 14, 13), (0, 11, 18, 15)]) (by decide) rfl ?_
  intro p e s m args below meth cd s₁ B hml hv0
  obtain ⟨rfl, hsz, hP, hK, hD0⟩ := hv0
  have hx := B.exec
  have hb := B.bytes
  have hr := B.returns
  have hts := atoms_spec (ws := w_Law_type) B.pre
  have hown : s.vm.findClass R_Law = some m.cls := findClass_of_methodNamed B.named
  have hlocks := B.notSynchronized
  subst hsz
  have hD := hD0.self (sz := s.heap.size)
  generalize hAe : va_A [(oN, .inr (0, [.ref oI, .ref oT, .ref oW, .ref oR, .ref oP, .ref oM, .ref oE])), (oI, .inr (6, [.ref aI, .int (nI ni)])), (aI, nw_ai cB 60 ci), (aO, nw_al cJ 1 o)] s.heap.size = A at hD ⊢
  have hA : ∀ q : Nat, s.heap.size ≤ q → A q := fun q h => by rw [← hAe]; exact Or.inr h
  have hS : va_S A s.heap s.heap [] := va_S.rf
  have hl := lv_entry ([.ref oN, .long x1, .long x2, .ref aO]) (n := 7) (Nat.le_of_ble_eq_true rfl)
  rw [lg_entry_eq]
  generalize (lg_sl ([.ref oN, .long x1, .long x2, .ref aO]) ++ List.replicate (7 - (lg_sl ([.ref oN, .long x1, .long x2, .ref aO])).length) Slot.unset).toArray = ls at hl ⊢
  have hl : lv_has ls 7 [(0, .ref oN), (1, .long x1), (3, .long x2), (5, .ref aO)] := hl
  refine lv_aload hx hb d_Law_type_0 (lv_at hl 3 rfl) ?_
  refine lv_iconst (v := nI 0) hx hb d_Law_type_2 (by decide) ?_
  refine lv_aload_n hx hb d_Law_type_3 rfl (lv_at hl 0 rfl) ?_
  refine lv_lload_n hx hb d_Law_type_4 rfl (lv_at hl 1 rfl) ?_
  refine lv_lload_n hx hb d_Law_type_5 rfl (lv_at hl 2 rfl) ?_
  refine nw_calli (wc := [(oN, .inr (0, [.ref oI, .ref oT, .ref oW, .ref oR, .ref oP, .ref oM, .ref oE])), (oI, .inr (6, [.ref aI, .int (nI ni)])), (aI, nw_ai cB 60 ci)]) (wr := [(aO, nw_al cJ 1 o)]) hP hD hS hA [0, 1, 2] [3] rfl rfl (by decide) (by decide) (va_runV (As := [.long x1, .long x2]) (rest := [.int (nI 0), .ref aO]) ⟨hx, hb, hml, hown, hts⟩ (c_NW_type_ok l dC dI _ cB oN oI oT oW oR oP oM oE aI ni ci x1 x2 hy1 hy2 hroom hci) (cwV (C := R_NW) 2 hts (nw_GV (nw_m 332 rfl) (nw_m 333 rfl) (nw_m 334 rfl) (nw_m 43 rfl) (nw_m 335 rfl)) rfl rfl rfl (by decide +kernel) ⟨Nat.le_of_ble_eq_true rfl, Nat.le_of_ble_eq_true rfl⟩) (nw_prewV (q0 := 0) (ci := 0) (q := (R_NW, F_NW, 7)) hK hP hD [0, 1, 2] [0] (by decide) rfl rfl rfl rfl) rfl rfl hl.1 rfl (lv_room (Nat.le_of_ble_eq_true rfl)) d_Law_type_6 ⟨Nat.le_of_ble_eq_true rfl, Nat.le_of_ble_eq_true rfl⟩) (fun r u H locs hw hP hD hS => ?_)
  replace hP : va_P (dC, dI) nw_cls [(aO, nw_al cJ 1 o), (oN, .inr (0, [.ref oI, .ref oT, .ref oW, .ref oR, .ref oP, .ref oM, .ref oE])), (oI, .inr (6, [.ref aI, .int (nI ((ni + nw_cnt (fun j => nw_bk x1 j ≠ 0) 8) + nw_cnt (fun j => nw_bk x2 j ≠ 0) 8))])), (aI, nw_ai cB 60 u)] H := hP
  replace hD : va_D A [(aO, nw_al cJ 1 o), (oN, .inr (0, [.ref oI, .ref oT, .ref oW, .ref oR, .ref oP, .ref oM, .ref oE])), (oI, .inr (6, [.ref aI, .int (nI ((ni + nw_cnt (fun j => nw_bk x1 j ≠ 0) 8) + nw_cnt (fun j => nw_bk x2 j ≠ 0) 8))])), (aI, nw_ai cB 60 u)] := hD
  obtain rfl : r = nI ((ni + nw_cnt (fun j => nw_bk x1 j ≠ 0) 8) + nw_cnt (fun j => nw_bk x2 j ≠ 0) 8) := hw.1
  skip
  refine lv_i2l (v := lN ((ni + nw_cnt (fun j => nw_bk x1 j ≠ 0) 8) + nw_cnt (fun j => nw_bk x2 j ≠ 0) 8)) hx hb d_Law_type_9 (nI_l (by omega)) ?_
  refine nw_last hx hb hK hP hD hS 0 1 rfl rfl (k := 0) (v := ((ni + nw_cnt (fun j => nw_bk x1 j ≠ 0) 8) + nw_cnt (fun j => nw_bk x2 j ≠ 0) 8)) (by omega) (by first | decide | omega) d_Law_type_10 (fun H locs hP hD hS => ?_)
  replace hP : va_P (dC, dI) nw_cls [(aO, nw_al cJ 1 (va_up o 0 ((ni + nw_cnt (fun j => nw_bk x1 j ≠ 0) 8) + nw_cnt (fun j => nw_bk x2 j ≠ 0) 8))), (oN, .inr (0, [.ref oI, .ref oT, .ref oW, .ref oR, .ref oP, .ref oM, .ref oE])), (oI, .inr (6, [.ref aI, .int (nI ((ni + nw_cnt (fun j => nw_bk x1 j ≠ 0) 8) + nw_cnt (fun j => nw_bk x2 j ≠ 0) 8))])), (aI, nw_ai cB 60 u)] H := hP
  replace hD : va_D A [(aO, nw_al cJ 1 (va_up o 0 ((ni + nw_cnt (fun j => nw_bk x1 j ≠ 0) 8) + nw_cnt (fun j => nw_bk x2 j ≠ 0) 8))), (oN, .inr (0, [.ref oI, .ref oT, .ref oW, .ref oR, .ref oP, .ref oM, .ref oE])), (oI, .inr (6, [.ref aI, .int (nI ((ni + nw_cnt (fun j => nw_bk x1 j ≠ 0) 8) + nw_cnt (fun j => nw_bk x2 j ≠ 0) 8))])), (aI, nw_ai cB 60 u)] := hD
  refine lv_goto hx hb d_Law_type_11 (tgt := 22) (by decide) ?_
  refine lv_iconst (v := nI 0) hx hb d_Law_type_22 (by decide) ?_
  have hP := hP.sub (ws' := [(oN, .inr (0, [.ref oI, .ref oT, .ref oW, .ref oR, .ref oP, .ref oM, .ref oE])), (oI, .inr (6, [.ref aI, .int (nI ((ni + nw_cnt (fun j => nw_bk x1 j ≠ 0) 8) + nw_cnt (fun j => nw_bk x2 j ≠ 0) 8))])), (aI, nw_ai cB 60 u), (aO, nw_al cJ 1 (va_up o 0 ((ni + nw_cnt (fun j => nw_bk x1 j ≠ 0) 8) + nw_cnt (fun j => nw_bk x2 j ≠ 0) 8)))]) [1, 2, 3, 0] rfl
  have hD := hD.sub (ws' := [(oN, .inr (0, [.ref oI, .ref oT, .ref oW, .ref oR, .ref oP, .ref oM, .ref oE])), (oI, .inr (6, [.ref aI, .int (nI ((ni + nw_cnt (fun j => nw_bk x1 j ≠ 0) 8) + nw_cnt (fun j => nw_bk x2 j ≠ 0) 8))])), (aI, nw_ai cB 60 u), (aO, nw_al cJ 1 (va_up o 0 ((ni + nw_cnt (fun j => nw_bk x1 j ≠ 0) 8) + nw_cnt (fun j => nw_bk x2 j ≠ 0) 8)))]) [1, 2, 3, 0] (by decide) rfl
  exact W.iret (v := nI 0) hx hb hr (fun t ht hW => ⟨⟨_, u, rfl, ⟨rfl, hw⟩, by rw [ht]; exact hP, hD⟩, hS.F ht⟩) hS.2.2 d_Law_type_23

set_option maxHeartbeats 4000000 in
set_option maxRecDepth 100000 in
theorem c_Law_type_bad (l : Launch) (hlt : l.stackTraces = false) (dC : Nat → ClassId) (dI : Nat → Nat → Nat) (sz : Nat) (oN oI oT oW oR oP oM oE : Nat) (x1 x2 : Int64) (hbad : (∃ k, k < 8 ∧ nw_bad (nw_bk x1 k)) ∨ ((∀ k, k < 8 → ¬ nw_bad (nw_bk x1 k)) ∧ ∃ k, k < 8 ∧ nw_bad (nw_bk x2 k))) (aO : Nat) : Met l y_Law_type w_Law_type ({ frames := 7, cells := 1, slots := 6, locals := 105 }) (nx_Pw [.ref oN, .long x1, .long x2, .ref aO] (dC, dI) nw_cls [] [(oN, .inr (0, [.ref oI, .ref oT, .ref oW, .ref oR, .ref oP, .ref oM, .ref oE]))] sz) (va_Qi (fun (r : Int32) (_ : Unit) => r = nI 1) (nw_B (dC, dI) nw_cls (va_A [(oN, .inr (0, [.ref oI, .ref oT, .ref oW, .ref oR, .ref oP, .ref oM, .ref oE]))] sz) (fun _ : Unit => [(oN, .inr (0, [.ref oI, .ref oT, .ref oW, .ref oR, .ref oP, .ref oM, .ref oE]))])) (va_A [(oN, .inr (0, [.ref oI, .ref oT, .ref oW, .ref oR, .ref oP, .ref oM, .ref oE]))] sz)) 1 6 (va_A [(oN, .inr (0, [.ref oI, .ref oT, .ref oW, .ref oR, .ref oP, .ref oM, .ref oE]))] sz) := by
  refine va_MetW (cc := b_Law_type) (maxL := 7) (ret := (some .int)) (hh := [(0, 11, 14, 13), (0, 11, 18, 15)]) (by decide) rfl ?_
  intro p e s m args below meth cd s₁ B hml hv0
  obtain ⟨rfl, hsz, hP, hK, hD0, hok⟩ := hv0
  have hx := B.exec
  have hb := B.bytes
  have hr := B.returns
  have hts := atoms_spec (ws := w_Law_type) B.pre
  have hown : s.vm.findClass R_Law = some m.cls := findClass_of_methodNamed B.named
  have hlocks := B.notSynchronized
  subst hsz
  have hD := hD0.self (sz := s.heap.size)
  generalize hAe : va_A [(oN, .inr (0, [.ref oI, .ref oT, .ref oW, .ref oR, .ref oP, .ref oM, .ref oE]))] s.heap.size = A at hD hok ⊢
  have hA : ∀ q : Nat, s.heap.size ≤ q → A q := fun q h => by rw [← hAe]; exact Or.inr h
  have hS : va_S A s.heap s.heap [] := va_S.rf
  have hl := lv_entry ([.ref oN, .long x1, .long x2, .ref aO]) (n := 7) (Nat.le_of_ble_eq_true rfl)
  rw [lg_entry_eq]
  generalize (lg_sl ([.ref oN, .long x1, .long x2, .ref aO]) ++ List.replicate (7 - (lg_sl ([.ref oN, .long x1, .long x2, .ref aO])).length) Slot.unset).toArray = ls at hl ⊢
  have hl : lv_has ls 7 [(0, .ref oN), (1, .long x1), (3, .long x2), (5, .ref aO)] := hl
  obtain ⟨m9, meth9, c9, hn9, hm9, hc9, -, -, htab, -⟩ := Cond.codeWith_spec (hts _ List.mem_cons_self)
  cases B.named.symm.trans hn9
  cases B.method.symm.trans hm9
  cases (Stand.of_body B).code.symm.trans hc9
  refine lv_aload hx hb d_Law_type_0 (lv_at hl 3 rfl) ?_
  refine lv_iconst (v := nI 0) hx hb d_Law_type_2 (by decide) ?_
  refine lv_aload_n hx hb d_Law_type_3 rfl (lv_at hl 0 rfl) ?_
  refine lv_lload_n hx hb d_Law_type_4 rfl (lv_at hl 1 rfl) ?_
  refine lv_lload_n hx hb d_Law_type_5 rfl (lv_at hl 2 rfl) ?_
  have hokH := hok.kept hS.2.1
  have hFc := va_free (wc := [(oN, .inr (0, [.ref oI, .ref oT, .ref oW, .ref oR, .ref oP, .ref oM, .ref oE]))]) hD hS hA [0] rfl
  refine nx_catchA hx hb (hml.trans hl.1.symm) hown hokH (cwV (C := R_NW) 2 hts (nw_GV (nw_m 332 rfl) (nw_m 333 rfl) (nw_m 334 rfl) (nw_m 43 rfl) (nw_m 335 rfl)) rfl rfl rfl (by decide +kernel) ⟨Nat.le_of_ble_eq_true rfl, Nat.le_of_ble_eq_true rfl⟩) (c_NW_type_bad l hlt dC dI _ oN oI oT oW oR oP oM oE x1 x2 hbad) (As := [.long x1, .long x2]) (rest := [.int (nI 0), .ref aO]) (nx_prewV (H0 := s.heap) (locs := []) (q0 := 0) (ci := 0) (q := (R_NW, F_NW, 7)) hokH hFc hK hP hD [0] [] (by decide) rfl rfl rfl rfl) rfl rfl (Nat.le_of_ble_eq_true rfl) d_Law_type_6 ⟨Nat.le_of_ble_eq_true rfl, Nat.le_of_ble_eq_true rfl⟩ hS hFc htab (by decide) (by decide) (by decide) (hts _ (nw_mc 434 rfl)) (fun q9 H locs hP hD hS => ?_)
  replace hP : va_P (dC, dI) nw_cls [(oN, .inr (0, [.ref oI, .ref oT, .ref oW, .ref oR, .ref oP, .ref oM, .ref oE]))] H := hP
  replace hD : va_D A [(oN, .inr (0, [.ref oI, .ref oT, .ref oW, .ref oR, .ref oP, .ref oM, .ref oE]))] := hD
  refine lv_astore hx hb d_Law_type_14 hl (by decide) rfl (fun ls hl => ?_)
  replace hl : lv_has ls 7 [(6, .ref q9), (0, .ref oN), (1, .long x1), (3, .long x2), (5, .ref aO)] := hl
  refine lv_iconst (v := nI 1) hx hb d_Law_type_16 (by decide) ?_
  exact W.iret (v := nI 1) hx hb hr (fun t ht hW => ⟨⟨_, (), rfl, rfl, by rw [ht]; exact hP, hD⟩, hS.F ht⟩) hS.2.2 d_Law_type_17

set_option maxHeartbeats 4000000 in
set_option maxRecDepth 100000 in
theorem c_Law_type_full (l : Launch) (hlt : l.stackTraces = false) (dC : Nat → ClassId) (dI : Nat → Nat → Nat) (sz : Nat) (oN oI oT oW oR oP oM oE : Nat) (aI ni : Nat) (x1 x2 : Int64) (hy1 : ∀ k, k < 8 → ¬ nw_bad (nw_bk x1 k)) (hy2 : ∀ k, k < 8 → ¬ nw_bad (nw_bk x2 k)) (hni : ni ≤ 60) (hfull : 60 < ni + nw_cnt (fun j => nw_bk x1 j ≠ 0) 8 + nw_cnt (fun j => nw_bk x2 j ≠ 0) 8) (aO : Nat) : Met l y_Law_type w_Law_type ({ frames := 7, cells := 1, slots := 6, locals := 105 }) (nx_Pw [.ref oN, .long x1, .long x2, .ref aO] (dC, dI) nw_cls [] [(oN, .inr (0, [.ref oI, .ref oT, .ref oW, .ref oR, .ref oP, .ref oM, .ref oE])), (oI, .inr (6, [.ref aI, .int (nI ni)]))] sz) (va_Qi (fun (r : Int32) (_ : Unit) => r = nI 2) (nw_B (dC, dI) nw_cls (va_A [(oN, .inr (0, [.ref oI, .ref oT, .ref oW, .ref oR, .ref oP, .ref oM, .ref oE])), (oI, .inr (6, [.ref aI, .int (nI ni)]))] sz) (fun _ : Unit => [(oN, .inr (0, [.ref oI, .ref oT, .ref oW, .ref oR, .ref oP, .ref oM, .ref oE])), (oI, .inr (6, [.ref aI, .int (nI ni)]))])) (va_A [(oN, .inr (0, [.ref oI, .ref oT, .ref oW, .ref oR, .ref oP, .ref oM, .ref oE])), (oI, .inr (6, [.ref aI, .int (nI ni)]))] sz)) 1 6 (va_A [(oN, .inr (0, [.ref oI, .ref oT, .ref oW, .ref oR, .ref oP, .ref oM, .ref oE])), (oI, .inr (6, [.ref aI, .int (nI ni)]))] sz) := by
  refine va_MetW (cc := b_Law_type) (maxL := 7) (ret := (some .int)) (hh := [(0, 11, 14, 13), (0, 11, 18, 15)]) (by decide) rfl ?_
  intro p e s m args below meth cd s₁ B hml hv0
  obtain ⟨rfl, hsz, hP, hK, hD0, hok⟩ := hv0
  have hx := B.exec
  have hb := B.bytes
  have hr := B.returns
  have hts := atoms_spec (ws := w_Law_type) B.pre
  have hown : s.vm.findClass R_Law = some m.cls := findClass_of_methodNamed B.named
  have hlocks := B.notSynchronized
  subst hsz
  have hD := hD0.self (sz := s.heap.size)
  generalize hAe : va_A [(oN, .inr (0, [.ref oI, .ref oT, .ref oW, .ref oR, .ref oP, .ref oM, .ref oE])), (oI, .inr (6, [.ref aI, .int (nI ni)]))] s.heap.size = A at hD hok ⊢
  have hA : ∀ q : Nat, s.heap.size ≤ q → A q := fun q h => by rw [← hAe]; exact Or.inr h
  have hS : va_S A s.heap s.heap [] := va_S.rf
  have hl := lv_entry ([.ref oN, .long x1, .long x2, .ref aO]) (n := 7) (Nat.le_of_ble_eq_true rfl)
  rw [lg_entry_eq]
  generalize (lg_sl ([.ref oN, .long x1, .long x2, .ref aO]) ++ List.replicate (7 - (lg_sl ([.ref oN, .long x1, .long x2, .ref aO])).length) Slot.unset).toArray = ls at hl ⊢
  have hl : lv_has ls 7 [(0, .ref oN), (1, .long x1), (3, .long x2), (5, .ref aO)] := hl
  obtain ⟨m9, meth9, c9, hn9, hm9, hc9, -, -, htab, -⟩ := Cond.codeWith_spec (hts _ List.mem_cons_self)
  cases B.named.symm.trans hn9
  cases B.method.symm.trans hm9
  cases (Stand.of_body B).code.symm.trans hc9
  refine lv_aload hx hb d_Law_type_0 (lv_at hl 3 rfl) ?_
  refine lv_iconst (v := nI 0) hx hb d_Law_type_2 (by decide) ?_
  refine lv_aload_n hx hb d_Law_type_3 rfl (lv_at hl 0 rfl) ?_
  refine lv_lload_n hx hb d_Law_type_4 rfl (lv_at hl 1 rfl) ?_
  refine lv_lload_n hx hb d_Law_type_5 rfl (lv_at hl 2 rfl) ?_
  have hokH := hok.kept hS.2.1
  have hFc := va_free (wc := [(oN, .inr (0, [.ref oI, .ref oT, .ref oW, .ref oR, .ref oP, .ref oM, .ref oE])), (oI, .inr (6, [.ref aI, .int (nI ni)]))]) hD hS hA [0, 1] rfl
  refine nx_catchB hx hb (hml.trans hl.1.symm) hown hokH (cwV (C := R_NW) 2 hts (nw_GV (nw_m 332 rfl) (nw_m 333 rfl) (nw_m 334 rfl) (nw_m 43 rfl) (nw_m 335 rfl)) rfl rfl rfl (by decide +kernel) ⟨Nat.le_of_ble_eq_true rfl, Nat.le_of_ble_eq_true rfl⟩) (c_NW_type_full l hlt dC dI _ oN oI oT oW oR oP oM oE aI ni x1 x2 hy1 hy2 hni hfull) (As := [.long x1, .long x2]) (rest := [.int (nI 0), .ref aO]) (nx_prewV (H0 := s.heap) (locs := []) (q0 := 0) (ci := 0) (q := (R_NW, F_NW, 7)) hokH hFc hK hP hD [0, 1] [] (by decide) rfl rfl rfl rfl) rfl rfl (Nat.le_of_ble_eq_true rfl) d_Law_type_6 ⟨Nat.le_of_ble_eq_true rfl, Nat.le_of_ble_eq_true rfl⟩ hS hFc htab (by decide) (by decide) (by decide) (hts _ (nw_mc 434 rfl)) (by decide) (hts _ (nw_mc 435 rfl)) (fun q9 H locs hP hD hS => ?_)
  replace hP : va_P (dC, dI) nw_cls [(oN, .inr (0, [.ref oI, .ref oT, .ref oW, .ref oR, .ref oP, .ref oM, .ref oE])), (oI, .inr (6, [.ref aI, .int (nI ni)]))] H := hP
  replace hD : va_D A [(oN, .inr (0, [.ref oI, .ref oT, .ref oW, .ref oR, .ref oP, .ref oM, .ref oE])), (oI, .inr (6, [.ref aI, .int (nI ni)]))] := hD
  refine lv_astore hx hb d_Law_type_18 hl (by decide) rfl (fun ls hl => ?_)
  replace hl : lv_has ls 7 [(6, .ref q9), (0, .ref oN), (1, .long x1), (3, .long x2), (5, .ref aO)] := hl
  refine lv_iconst (v := nI 2) hx hb d_Law_type_20 (by decide) ?_
  exact W.iret (v := nI 2) hx hb hr (fun t ht hW => ⟨⟨_, (), rfl, rfl, by rw [ht]; exact hP, hD⟩, hS.F ht⟩) hS.2.2 d_Law_type_21

set_option maxHeartbeats 4000000 in
set_option maxRecDepth 100000 in
theorem c_Law_add_old (l : Launch) (dC : Nat → ClassId) (dI : Nat → Nat → Nat) (sz : Nat) (cJ : ClassId) (cB cI : ClassId) (oN oI oT oW oR oP oM oE : Nat) (aI ni : Nat) (ci : Nat → Nat) (aT nt : Nat) (aW bW wn : Nat) (C st : Nat → Nat) (hwn : wn ≤ 1000) (hm : ∀ i, i < wn → st i ≤ st (i + 1) ∧ st (i + 1) ≤ 12000 ∧ st (i + 1) - st i ≤ 60) (hni : ni ≤ 60) (hC : ∀ j, C j < 127) (hci : ∀ j, ci j < 127) (hmono : ∀ i j, i < j → j < wn → nw_cm (fun k => C (st j + k)) (st (j + 1) - st j) ci ni < 0 → nw_cm (fun k => C (st i + k)) (st (i + 1) - st i) ci ni < 0) (pl : Nat) (hpl0 : pl = nw_cnt (fun i => nw_cm (fun k => C (st i + k)) (st (i + 1) - st i) ci ni < 0) wn) (h1 : 1 ≤ ni) (ho : pl < wn ∧ nw_cm (fun k => C (st pl + k)) (st (pl + 1) - st pl) ci ni = 0) (aO : Nat) (o : Nat → Nat)  : Met l y_Law_add w_Law_add ({ frames := 4, cells := 0, slots := 0, locals := 92 }) (nw_Pw [.ref oN, .ref aO] (dC, dI) nw_cls [(cB, .byte), (cI, .int), (cJ, .long)] [(oN, .inr (0, [.ref oI, .ref oT, .ref oW, .ref oR, .ref oP, .ref oM, .ref oE])), (oI, .inr (6, [.ref aI, .int (nI ni)])), (oT, .inr (6, [.ref aT, .int (nI nt)])), (aI, nw_ai cB 60 ci), (oW, .inr (7, [.ref aW, .ref bW, .int (nI wn)])), (aW, nw_ai cB 12000 C), (bW, nw_ai cI 1001 st), (aO, nw_al cJ 1 o)] sz) (va_Qi (fun (r : Int32) (_ : Unit) => r = nI 0) (nw_B (dC, dI) nw_cls (va_A [(oN, .inr (0, [.ref oI, .ref oT, .ref oW, .ref oR, .ref oP, .ref oM, .ref oE])), (oI, .inr (6, [.ref aI, .int (nI ni)])), (oT, .inr (6, [.ref aT, .int (nI nt)])), (aI, nw_ai cB 60 ci), (oW, .inr (7, [.ref aW, .ref bW, .int (nI wn)])), (aW, nw_ai cB 12000 C), (bW, nw_ai cI 1001 st), (aO, nw_al cJ 1 o)] sz) (fun _ : Unit => [(oN, .inr (0, [.ref oT, .ref oI, .ref oW, .ref oR, .ref oP, .ref oM, .ref oE])), (oI, .inr (6, [.ref aI, .int (nI ni)])), (oT, .inr (6, [.ref aT, .int (nI 0)])), (aI, nw_ai cB 60 ci), (oW, .inr (7, [.ref aW, .ref bW, .int (nI wn)])), (aW, nw_ai cB 12000 C), (bW, nw_ai cI 1001 st), (aO, nw_al cJ 1 (va_up o 0 (wn)))])) (va_A [(oN, .inr (0, [.ref oI, .ref oT, .ref oW, .ref oR, .ref oP, .ref oM, .ref oE])), (oI, .inr (6, [.ref aI, .int (nI ni)])), (oT, .inr (6, [.ref aT, .int (nI nt)])), (aI, nw_ai cB 60 ci), (oW, .inr (7, [.ref aW, .ref bW, .int (nI wn)])), (aW, nw_ai cB 12000 C), (bW, nw_ai cI 1001 st), (aO, nw_al cJ 1 o)] sz)) 0 0 (va_A [(oN, .inr (0, [.ref oI, .ref oT, .ref oW, .ref oR, .ref oP, .ref oM, .ref oE])), (oI, .inr (6, [.ref aI, .int (nI ni)])), (oT, .inr (6, [.ref aT, .int (nI nt)])), (aI, nw_ai cB 60 ci), (oW, .inr (7, [.ref aW, .ref bW, .int (nI wn)])), (aW, nw_ai cB 12000 C), (bW, nw_ai cI 1001 st), (aO, nw_al cJ 1 o)] sz) := by
  refine va_MetW (cc := b_Law_add) (maxL := 3) (ret := (some .int)) (hh := [(0, 8, 11, 13), (0, 8, 14, 15)]) (by decide) rfl ?_
  intro p e s m args below meth cd s₁ B hml hv0
  obtain ⟨rfl, hsz, hP, hK, hD0⟩ := hv0
  have hx := B.exec
  have hb := B.bytes
  have hr := B.returns
  have hts := atoms_spec (ws := w_Law_add) B.pre
  have hown : s.vm.findClass R_Law = some m.cls := findClass_of_methodNamed B.named
  have hlocks := B.notSynchronized
  subst hsz
  have hD := hD0.self (sz := s.heap.size)
  generalize hAe : va_A [(oN, .inr (0, [.ref oI, .ref oT, .ref oW, .ref oR, .ref oP, .ref oM, .ref oE])), (oI, .inr (6, [.ref aI, .int (nI ni)])), (oT, .inr (6, [.ref aT, .int (nI nt)])), (aI, nw_ai cB 60 ci), (oW, .inr (7, [.ref aW, .ref bW, .int (nI wn)])), (aW, nw_ai cB 12000 C), (bW, nw_ai cI 1001 st), (aO, nw_al cJ 1 o)] s.heap.size = A at hD ⊢
  have hA : ∀ q : Nat, s.heap.size ≤ q → A q := fun q h => by rw [← hAe]; exact Or.inr h
  have hS : va_S A s.heap s.heap [] := va_S.rf
  have hl := lv_entry ([.ref oN, .ref aO]) (n := 3) (Nat.le_of_ble_eq_true rfl)
  rw [lg_entry_eq]
  generalize (lg_sl ([.ref oN, .ref aO]) ++ List.replicate (3 - (lg_sl ([.ref oN, .ref aO])).length) Slot.unset).toArray = ls at hl ⊢
  have hl : lv_has ls 3 [(0, .ref oN), (1, .ref aO)] := hl
  refine lv_aload_n hx hb d_Law_add_0 rfl (lv_at hl 1 rfl) ?_
  refine lv_iconst (v := nI 0) hx hb d_Law_add_1 (by decide) ?_
  refine lv_aload_n hx hb d_Law_add_2 rfl (lv_at hl 0 rfl) ?_
  refine nw_calli (wc := [(oN, .inr (0, [.ref oI, .ref oT, .ref oW, .ref oR, .ref oP, .ref oM, .ref oE])), (oI, .inr (6, [.ref aI, .int (nI ni)])), (oT, .inr (6, [.ref aT, .int (nI nt)])), (aI, nw_ai cB 60 ci), (oW, .inr (7, [.ref aW, .ref bW, .int (nI wn)])), (aW, nw_ai cB 12000 C), (bW, nw_ai cI 1001 st)]) (wr := [(aO, nw_al cJ 1 o)]) hP hD hS hA [0, 1, 2, 3, 4, 5, 6] [7] rfl rfl (by decide) (by decide) (va_runV (As := []) (rest := [.int (nI 0), .ref aO]) ⟨hx, hb, hml, hown, hts⟩ (c_NW_add_old l dC dI _ cB cI oN oI oT oW oR oP oM oE aI ni ci aT nt aW bW wn C st hwn hm hni hC hci hmono pl hpl0 h1 ho) (cwV (C := R_NW) 0 hts (nw_GV (nw_m 336 rfl) (nw_m 337 rfl) (nw_m 338 rfl) (nw_m 43 rfl) (nw_m 339 rfl)) rfl rfl rfl (by decide +kernel) ⟨Nat.le_of_ble_eq_true rfl, Nat.le_of_ble_eq_true rfl⟩) (nw_prewV (q0 := 0) (ci := 0) (q := (R_NW, F_NW, 7)) hK hP hD [0, 1, 2, 3, 4, 5, 6] [0, 1] (by decide) rfl rfl rfl rfl) rfl rfl hl.1 rfl (lv_room (Nat.le_of_ble_eq_true rfl)) d_Law_add_3 ⟨Nat.le_of_ble_eq_true rfl, Nat.le_of_ble_eq_true rfl⟩) (fun r _ H locs hw hP hD hS => ?_)
  replace hP : va_P (dC, dI) nw_cls [(aO, nw_al cJ 1 o), (oN, .inr (0, [.ref oT, .ref oI, .ref oW, .ref oR, .ref oP, .ref oM, .ref oE])), (oI, .inr (6, [.ref aI, .int (nI ni)])), (oT, .inr (6, [.ref aT, .int (nI 0)])), (aI, nw_ai cB 60 ci), (oW, .inr (7, [.ref aW, .ref bW, .int (nI wn)])), (aW, nw_ai cB 12000 C), (bW, nw_ai cI 1001 st)] H := hP
  replace hD : va_D A [(aO, nw_al cJ 1 o), (oN, .inr (0, [.ref oT, .ref oI, .ref oW, .ref oR, .ref oP, .ref oM, .ref oE])), (oI, .inr (6, [.ref aI, .int (nI ni)])), (oT, .inr (6, [.ref aT, .int (nI 0)])), (aI, nw_ai cB 60 ci), (oW, .inr (7, [.ref aW, .ref bW, .int (nI wn)])), (aW, nw_ai cB 12000 C), (bW, nw_ai cI 1001 st)] := hD
  obtain rfl : r = nI wn := hw
  skip
  refine lv_i2l (v := lN wn) hx hb d_Law_add_6 (nI_l (by omega)) ?_
  refine nw_last hx hb hK hP hD hS 0 2 rfl rfl (k := 0) (v := wn) (by omega) (by first | decide | omega) d_Law_add_7 (fun H locs hP hD hS => ?_)
  replace hP : va_P (dC, dI) nw_cls [(aO, nw_al cJ 1 (va_up o 0 wn)), (oN, .inr (0, [.ref oT, .ref oI, .ref oW, .ref oR, .ref oP, .ref oM, .ref oE])), (oI, .inr (6, [.ref aI, .int (nI ni)])), (oT, .inr (6, [.ref aT, .int (nI 0)])), (aI, nw_ai cB 60 ci), (oW, .inr (7, [.ref aW, .ref bW, .int (nI wn)])), (aW, nw_ai cB 12000 C), (bW, nw_ai cI 1001 st)] H := hP
  replace hD : va_D A [(aO, nw_al cJ 1 (va_up o 0 wn)), (oN, .inr (0, [.ref oT, .ref oI, .ref oW, .ref oR, .ref oP, .ref oM, .ref oE])), (oI, .inr (6, [.ref aI, .int (nI ni)])), (oT, .inr (6, [.ref aT, .int (nI 0)])), (aI, nw_ai cB 60 ci), (oW, .inr (7, [.ref aW, .ref bW, .int (nI wn)])), (aW, nw_ai cB 12000 C), (bW, nw_ai cI 1001 st)] := hD
  refine lv_goto hx hb d_Law_add_8 (tgt := 17) (by decide) ?_
  refine lv_iconst (v := nI 0) hx hb d_Law_add_17 (by decide) ?_
  have hP := hP.sub (ws' := [(oN, .inr (0, [.ref oT, .ref oI, .ref oW, .ref oR, .ref oP, .ref oM, .ref oE])), (oI, .inr (6, [.ref aI, .int (nI ni)])), (oT, .inr (6, [.ref aT, .int (nI 0)])), (aI, nw_ai cB 60 ci), (oW, .inr (7, [.ref aW, .ref bW, .int (nI wn)])), (aW, nw_ai cB 12000 C), (bW, nw_ai cI 1001 st), (aO, nw_al cJ 1 (va_up o 0 wn))]) [1, 2, 3, 4, 5, 6, 7, 0] rfl
  have hD := hD.sub (ws' := [(oN, .inr (0, [.ref oT, .ref oI, .ref oW, .ref oR, .ref oP, .ref oM, .ref oE])), (oI, .inr (6, [.ref aI, .int (nI ni)])), (oT, .inr (6, [.ref aT, .int (nI 0)])), (aI, nw_ai cB 60 ci), (oW, .inr (7, [.ref aW, .ref bW, .int (nI wn)])), (aW, nw_ai cB 12000 C), (bW, nw_ai cI 1001 st), (aO, nw_al cJ 1 (va_up o 0 wn))]) [1, 2, 3, 4, 5, 6, 7, 0] (by decide) rfl
  exact W.iret (v := nI 0) hx hb hr (fun t ht hW => ⟨⟨_, (), rfl, rfl, by rw [ht]; exact hP, hD⟩, hS.F ht⟩) hS.2.2 d_Law_add_18

set_option maxHeartbeats 4000000 in
set_option maxRecDepth 100000 in
theorem c_Law_add_new (l : Launch) (dC : Nat → ClassId) (dI : Nat → Nat → Nat) (sz : Nat) (cJ : ClassId) (cB cI : ClassId) (oN oI oT oW oR oP oM oE : Nat) (aI ni : Nat) (ci : Nat → Nat) (aT nt : Nat) (aW bW wn : Nat) (C st : Nat → Nat) (hwn : wn ≤ 1000) (hm : ∀ i, i < wn → st i ≤ st (i + 1) ∧ st (i + 1) ≤ 12000 ∧ st (i + 1) - st i ≤ 60) (hni : ni ≤ 60) (hC : ∀ j, C j < 127) (hci : ∀ j, ci j < 127) (hmono : ∀ i j, i < j → j < wn → nw_cm (fun k => C (st j + k)) (st (j + 1) - st j) ci ni < 0 → nw_cm (fun k => C (st i + k)) (st (i + 1) - st i) ci ni < 0) (pl : Nat) (hpl0 : pl = nw_cnt (fun i => nw_cm (fun k => C (st i + k)) (st (i + 1) - st i) ci ni < 0) wn) (h1 : 1 ≤ ni) (ho : ¬ (pl < wn ∧ nw_cm (fun k => C (st pl + k)) (st (pl + 1) - st pl) ci ni = 0)) (hw2 : wn < 1000) (hch : st wn + ni ≤ 12000) (hmo : ∀ i j, i ≤ j → j ≤ wn → st i ≤ st j) (hse : st wn ≤ 12000) (aO : Nat) (o : Nat → Nat)  : Met l y_Law_add w_Law_add ({ frames := 4, cells := 0, slots := 0, locals := 92 }) (nw_Pw [.ref oN, .ref aO] (dC, dI) nw_cls [(cB, .byte), (cI, .int), (cJ, .long)] [(oN, .inr (0, [.ref oI, .ref oT, .ref oW, .ref oR, .ref oP, .ref oM, .ref oE])), (oI, .inr (6, [.ref aI, .int (nI ni)])), (oT, .inr (6, [.ref aT, .int (nI nt)])), (aI, nw_ai cB 60 ci), (oW, .inr (7, [.ref aW, .ref bW, .int (nI wn)])), (aW, nw_ai cB 12000 C), (bW, nw_ai cI 1001 st), (aO, nw_al cJ 1 o)] sz) (va_Qi (fun (r : Int32) (_ : Unit) => r = nI 0) (nw_B (dC, dI) nw_cls (va_A [(oN, .inr (0, [.ref oI, .ref oT, .ref oW, .ref oR, .ref oP, .ref oM, .ref oE])), (oI, .inr (6, [.ref aI, .int (nI ni)])), (oT, .inr (6, [.ref aT, .int (nI nt)])), (aI, nw_ai cB 60 ci), (oW, .inr (7, [.ref aW, .ref bW, .int (nI wn)])), (aW, nw_ai cB 12000 C), (bW, nw_ai cI 1001 st), (aO, nw_al cJ 1 o)] sz) (fun _ : Unit => [(oN, .inr (0, [.ref oT, .ref oI, .ref oW, .ref oR, .ref oP, .ref oM, .ref oE])), (oI, .inr (6, [.ref aI, .int (nI ni)])), (oT, .inr (6, [.ref aT, .int (nI 0)])), (aI, nw_ai cB 60 ci), (oW, .inr (7, [.ref aW, .ref bW, .int (nI (wn + 1))])), (aW, nw_ai cB 12000 (va_cpy ci (va_cpy C C (st pl) (st pl + ni) (st wn - st pl)) 0 (st pl) ni)), (bW, nw_ai cI 1001 (nw_ins st pl wn ni)), (aO, nw_al cJ 1 (va_up o 0 (wn + 1)))])) (va_A [(oN, .inr (0, [.ref oI, .ref oT, .ref oW, .ref oR, .ref oP, .ref oM, .ref oE])), (oI, .inr (6, [.ref aI, .int (nI ni)])), (oT, .inr (6, [.ref aT, .int (nI nt)])), (aI, nw_ai cB 60 ci), (oW, .inr (7, [.ref aW, .ref bW, .int (nI wn)])), (aW, nw_ai cB 12000 C), (bW, nw_ai cI 1001 st), (aO, nw_al cJ 1 o)] sz)) 0 0 (va_A [(oN, .inr (0, [.ref oI, .ref oT, .ref oW, .ref oR, .ref oP, .ref oM, .ref oE])), (oI, .inr (6, [.ref aI, .int (nI ni)])), (oT, .inr (6, [.ref aT, .int (nI nt)])), (aI, nw_ai cB 60 ci), (oW, .inr (7, [.ref aW, .ref bW, .int (nI wn)])), (aW, nw_ai cB 12000 C), (bW, nw_ai cI 1001 st), (aO, nw_al cJ 1 o)] sz) := by
  refine va_MetW (cc := b_Law_add) (maxL := 3) (ret := (some .int)) (hh := [(0, 8, 11, 13), (0, 8, 14, 15)]) (by decide) rfl ?_
  intro p e s m args below meth cd s₁ B hml hv0
  obtain ⟨rfl, hsz, hP, hK, hD0⟩ := hv0
  have hx := B.exec
  have hb := B.bytes
  have hr := B.returns
  have hts := atoms_spec (ws := w_Law_add) B.pre
  have hown : s.vm.findClass R_Law = some m.cls := findClass_of_methodNamed B.named
  have hlocks := B.notSynchronized
  subst hsz
  have hD := hD0.self (sz := s.heap.size)
  generalize hAe : va_A [(oN, .inr (0, [.ref oI, .ref oT, .ref oW, .ref oR, .ref oP, .ref oM, .ref oE])), (oI, .inr (6, [.ref aI, .int (nI ni)])), (oT, .inr (6, [.ref aT, .int (nI nt)])), (aI, nw_ai cB 60 ci), (oW, .inr (7, [.ref aW, .ref bW, .int (nI wn)])), (aW, nw_ai cB 12000 C), (bW, nw_ai cI 1001 st), (aO, nw_al cJ 1 o)] s.heap.size = A at hD ⊢
  have hA : ∀ q : Nat, s.heap.size ≤ q → A q := fun q h => by rw [← hAe]; exact Or.inr h
  have hS : va_S A s.heap s.heap [] := va_S.rf
  have hl := lv_entry ([.ref oN, .ref aO]) (n := 3) (Nat.le_of_ble_eq_true rfl)
  rw [lg_entry_eq]
  generalize (lg_sl ([.ref oN, .ref aO]) ++ List.replicate (3 - (lg_sl ([.ref oN, .ref aO])).length) Slot.unset).toArray = ls at hl ⊢
  have hl : lv_has ls 3 [(0, .ref oN), (1, .ref aO)] := hl
  refine lv_aload_n hx hb d_Law_add_0 rfl (lv_at hl 1 rfl) ?_
  refine lv_iconst (v := nI 0) hx hb d_Law_add_1 (by decide) ?_
  refine lv_aload_n hx hb d_Law_add_2 rfl (lv_at hl 0 rfl) ?_
  refine nw_calli (wc := [(oN, .inr (0, [.ref oI, .ref oT, .ref oW, .ref oR, .ref oP, .ref oM, .ref oE])), (oI, .inr (6, [.ref aI, .int (nI ni)])), (oT, .inr (6, [.ref aT, .int (nI nt)])), (aI, nw_ai cB 60 ci), (oW, .inr (7, [.ref aW, .ref bW, .int (nI wn)])), (aW, nw_ai cB 12000 C), (bW, nw_ai cI 1001 st)]) (wr := [(aO, nw_al cJ 1 o)]) hP hD hS hA [0, 1, 2, 3, 4, 5, 6] [7] rfl rfl (by decide) (by decide) (va_runV (As := []) (rest := [.int (nI 0), .ref aO]) ⟨hx, hb, hml, hown, hts⟩ (c_NW_add_new l dC dI _ cB cI oN oI oT oW oR oP oM oE aI ni ci aT nt aW bW wn C st hwn hm hni hC hci hmono pl hpl0 h1 ho hw2 hch hmo hse) (cwV (C := R_NW) 0 hts (nw_GV (nw_m 336 rfl) (nw_m 337 rfl) (nw_m 338 rfl) (nw_m 43 rfl) (nw_m 339 rfl)) rfl rfl rfl (by decide +kernel) ⟨Nat.le_of_ble_eq_true rfl, Nat.le_of_ble_eq_true rfl⟩) (nw_prewV (q0 := 0) (ci := 0) (q := (R_NW, F_NW, 7)) hK hP hD [0, 1, 2, 3, 4, 5, 6] [0, 1] (by decide) rfl rfl rfl rfl) rfl rfl hl.1 rfl (lv_room (Nat.le_of_ble_eq_true rfl)) d_Law_add_3 ⟨Nat.le_of_ble_eq_true rfl, Nat.le_of_ble_eq_true rfl⟩) (fun r _ H locs hw hP hD hS => ?_)
  replace hP : va_P (dC, dI) nw_cls [(aO, nw_al cJ 1 o), (oN, .inr (0, [.ref oT, .ref oI, .ref oW, .ref oR, .ref oP, .ref oM, .ref oE])), (oI, .inr (6, [.ref aI, .int (nI ni)])), (oT, .inr (6, [.ref aT, .int (nI 0)])), (aI, nw_ai cB 60 ci), (oW, .inr (7, [.ref aW, .ref bW, .int (nI (wn + 1))])), (aW, nw_ai cB 12000 (va_cpy ci (va_cpy C C (st pl) (st pl + ni) (st wn - st pl)) 0 (st pl) ni)), (bW, nw_ai cI 1001 (nw_ins st pl wn ni))] H := hP
  replace hD : va_D A [(aO, nw_al cJ 1 o), (oN, .inr (0, [.ref oT, .ref oI, .ref oW, .ref oR, .ref oP, .ref oM, .ref oE])), (oI, .inr (6, [.ref aI, .int (nI ni)])), (oT, .inr (6, [.ref aT, .int (nI 0)])), (aI, nw_ai cB 60 ci), (oW, .inr (7, [.ref aW, .ref bW, .int (nI (wn + 1))])), (aW, nw_ai cB 12000 (va_cpy ci (va_cpy C C (st pl) (st pl + ni) (st wn - st pl)) 0 (st pl) ni)), (bW, nw_ai cI 1001 (nw_ins st pl wn ni))] := hD
  obtain rfl : r = nI (wn + 1) := hw
  skip
  refine lv_i2l (v := lN (wn + 1)) hx hb d_Law_add_6 (nI_l (by omega)) ?_
  refine nw_last hx hb hK hP hD hS 0 2 rfl rfl (k := 0) (v := (wn + 1)) (by omega) (by first | decide | omega) d_Law_add_7 (fun H locs hP hD hS => ?_)
  replace hP : va_P (dC, dI) nw_cls [(aO, nw_al cJ 1 (va_up o 0 (wn + 1))), (oN, .inr (0, [.ref oT, .ref oI, .ref oW, .ref oR, .ref oP, .ref oM, .ref oE])), (oI, .inr (6, [.ref aI, .int (nI ni)])), (oT, .inr (6, [.ref aT, .int (nI 0)])), (aI, nw_ai cB 60 ci), (oW, .inr (7, [.ref aW, .ref bW, .int (nI (wn + 1))])), (aW, nw_ai cB 12000 (va_cpy ci (va_cpy C C (st pl) (st pl + ni) (st wn - st pl)) 0 (st pl) ni)), (bW, nw_ai cI 1001 (nw_ins st pl wn ni))] H := hP
  replace hD : va_D A [(aO, nw_al cJ 1 (va_up o 0 (wn + 1))), (oN, .inr (0, [.ref oT, .ref oI, .ref oW, .ref oR, .ref oP, .ref oM, .ref oE])), (oI, .inr (6, [.ref aI, .int (nI ni)])), (oT, .inr (6, [.ref aT, .int (nI 0)])), (aI, nw_ai cB 60 ci), (oW, .inr (7, [.ref aW, .ref bW, .int (nI (wn + 1))])), (aW, nw_ai cB 12000 (va_cpy ci (va_cpy C C (st pl) (st pl + ni) (st wn - st pl)) 0 (st pl) ni)), (bW, nw_ai cI 1001 (nw_ins st pl wn ni))] := hD
  refine lv_goto hx hb d_Law_add_8 (tgt := 17) (by decide) ?_
  refine lv_iconst (v := nI 0) hx hb d_Law_add_17 (by decide) ?_
  have hP := hP.sub (ws' := [(oN, .inr (0, [.ref oT, .ref oI, .ref oW, .ref oR, .ref oP, .ref oM, .ref oE])), (oI, .inr (6, [.ref aI, .int (nI ni)])), (oT, .inr (6, [.ref aT, .int (nI 0)])), (aI, nw_ai cB 60 ci), (oW, .inr (7, [.ref aW, .ref bW, .int (nI (wn + 1))])), (aW, nw_ai cB 12000 (va_cpy ci (va_cpy C C (st pl) (st pl + ni) (st wn - st pl)) 0 (st pl) ni)), (bW, nw_ai cI 1001 (nw_ins st pl wn ni)), (aO, nw_al cJ 1 (va_up o 0 (wn + 1)))]) [1, 2, 3, 4, 5, 6, 7, 0] rfl
  have hD := hD.sub (ws' := [(oN, .inr (0, [.ref oT, .ref oI, .ref oW, .ref oR, .ref oP, .ref oM, .ref oE])), (oI, .inr (6, [.ref aI, .int (nI ni)])), (oT, .inr (6, [.ref aT, .int (nI 0)])), (aI, nw_ai cB 60 ci), (oW, .inr (7, [.ref aW, .ref bW, .int (nI (wn + 1))])), (aW, nw_ai cB 12000 (va_cpy ci (va_cpy C C (st pl) (st pl + ni) (st wn - st pl)) 0 (st pl) ni)), (bW, nw_ai cI 1001 (nw_ins st pl wn ni)), (aO, nw_al cJ 1 (va_up o 0 (wn + 1)))]) [1, 2, 3, 4, 5, 6, 7, 0] (by decide) rfl
  exact W.iret (v := nI 0) hx hb hr (fun t ht hW => ⟨⟨_, (), rfl, rfl, by rw [ht]; exact hP, hD⟩, hS.F ht⟩) hS.2.2 d_Law_add_18

set_option maxHeartbeats 4000000 in
set_option maxRecDepth 100000 in
theorem c_Law_add_bad (l : Launch) (hlt : l.stackTraces = false) (dC : Nat → ClassId) (dI : Nat → Nat → Nat) (sz : Nat) (oN oI oT oW oR oP oM oE : Nat) (aI ni aT nt : Nat) (hz : ni = 0) (aO : Nat) : Met l y_Law_add w_Law_add ({ frames := 7, cells := 1, slots := 6, locals := 103 }) (nx_Pw [.ref oN, .ref aO] (dC, dI) nw_cls [] [(oN, .inr (0, [.ref oI, .ref oT, .ref oW, .ref oR, .ref oP, .ref oM, .ref oE])), (oI, .inr (6, [.ref aI, .int (nI ni)])), (oT, .inr (6, [.ref aT, .int (nI nt)]))] sz) (va_Qi (fun (r : Int32) (_ : Unit) => r = nI 1) (nw_B (dC, dI) nw_cls (va_A [(oN, .inr (0, [.ref oI, .ref oT, .ref oW, .ref oR, .ref oP, .ref oM, .ref oE])), (oI, .inr (6, [.ref aI, .int (nI ni)])), (oT, .inr (6, [.ref aT, .int (nI nt)]))] sz) (fun _ : Unit => [(oN, .inr (0, [.ref oT, .ref oI, .ref oW, .ref oR, .ref oP, .ref oM, .ref oE])), (oI, .inr (6, [.ref aI, .int (nI ni)])), (oT, .inr (6, [.ref aT, .int (nI 0)]))])) (va_A [(oN, .inr (0, [.ref oI, .ref oT, .ref oW, .ref oR, .ref oP, .ref oM, .ref oE])), (oI, .inr (6, [.ref aI, .int (nI ni)])), (oT, .inr (6, [.ref aT, .int (nI nt)]))] sz)) 1 6 (va_A [(oN, .inr (0, [.ref oI, .ref oT, .ref oW, .ref oR, .ref oP, .ref oM, .ref oE])), (oI, .inr (6, [.ref aI, .int (nI ni)])), (oT, .inr (6, [.ref aT, .int (nI nt)]))] sz) := by
  refine va_MetW (cc := b_Law_add) (maxL := 3) (ret := (some .int)) (hh := [(0, 8, 11, 13), (0, 8, 14, 15)]) (by decide) rfl ?_
  intro p e s m args below meth cd s₁ B hml hv0
  obtain ⟨rfl, hsz, hP, hK, hD0, hok⟩ := hv0
  have hx := B.exec
  have hb := B.bytes
  have hr := B.returns
  have hts := atoms_spec (ws := w_Law_add) B.pre
  have hown : s.vm.findClass R_Law = some m.cls := findClass_of_methodNamed B.named
  have hlocks := B.notSynchronized
  subst hsz
  have hD := hD0.self (sz := s.heap.size)
  generalize hAe : va_A [(oN, .inr (0, [.ref oI, .ref oT, .ref oW, .ref oR, .ref oP, .ref oM, .ref oE])), (oI, .inr (6, [.ref aI, .int (nI ni)])), (oT, .inr (6, [.ref aT, .int (nI nt)]))] s.heap.size = A at hD hok ⊢
  have hA : ∀ q : Nat, s.heap.size ≤ q → A q := fun q h => by rw [← hAe]; exact Or.inr h
  have hS : va_S A s.heap s.heap [] := va_S.rf
  have hl := lv_entry ([.ref oN, .ref aO]) (n := 3) (Nat.le_of_ble_eq_true rfl)
  rw [lg_entry_eq]
  generalize (lg_sl ([.ref oN, .ref aO]) ++ List.replicate (3 - (lg_sl ([.ref oN, .ref aO])).length) Slot.unset).toArray = ls at hl ⊢
  have hl : lv_has ls 3 [(0, .ref oN), (1, .ref aO)] := hl
  obtain ⟨m9, meth9, c9, hn9, hm9, hc9, -, -, htab, -⟩ := Cond.codeWith_spec (hts _ List.mem_cons_self)
  cases B.named.symm.trans hn9
  cases B.method.symm.trans hm9
  cases (Stand.of_body B).code.symm.trans hc9
  refine lv_aload_n hx hb d_Law_add_0 rfl (lv_at hl 1 rfl) ?_
  refine lv_iconst (v := nI 0) hx hb d_Law_add_1 (by decide) ?_
  refine lv_aload_n hx hb d_Law_add_2 rfl (lv_at hl 0 rfl) ?_
  have hokH := hok.kept hS.2.1
  have hFc := va_free (wc := [(oN, .inr (0, [.ref oI, .ref oT, .ref oW, .ref oR, .ref oP, .ref oM, .ref oE])), (oI, .inr (6, [.ref aI, .int (nI ni)])), (oT, .inr (6, [.ref aT, .int (nI nt)]))]) hD hS hA [0, 1, 2] rfl
  refine nx_catchA hx hb (hml.trans hl.1.symm) hown hokH (cwV (C := R_NW) 0 hts (nw_GV (nw_m 336 rfl) (nw_m 337 rfl) (nw_m 338 rfl) (nw_m 43 rfl) (nw_m 339 rfl)) rfl rfl rfl (by decide +kernel) ⟨Nat.le_of_ble_eq_true rfl, Nat.le_of_ble_eq_true rfl⟩) (c_NW_add_bad l hlt dC dI _ oN oI oT oW oR oP oM oE aI ni aT nt hz) (As := []) (rest := [.int (nI 0), .ref aO]) (nx_prewV (H0 := s.heap) (locs := []) (q0 := 0) (ci := 0) (q := (R_NW, F_NW, 7)) hokH hFc hK hP hD [0, 1, 2] [] (by decide) rfl rfl rfl rfl) rfl rfl (Nat.le_of_ble_eq_true rfl) d_Law_add_3 ⟨Nat.le_of_ble_eq_true rfl, Nat.le_of_ble_eq_true rfl⟩ hS hFc htab (by decide) (by decide) (by decide) (hts _ (nw_mc 434 rfl)) (fun q9 H locs hP hD hS => ?_)
  replace hP : va_P (dC, dI) nw_cls [(oN, .inr (0, [.ref oT, .ref oI, .ref oW, .ref oR, .ref oP, .ref oM, .ref oE])), (oI, .inr (6, [.ref aI, .int (nI ni)])), (oT, .inr (6, [.ref aT, .int (nI 0)]))] H := hP
  replace hD : va_D A [(oN, .inr (0, [.ref oT, .ref oI, .ref oW, .ref oR, .ref oP, .ref oM, .ref oE])), (oI, .inr (6, [.ref aI, .int (nI ni)])), (oT, .inr (6, [.ref aT, .int (nI 0)]))] := hD
  refine lv_astore_n hx hb d_Law_add_11 rfl hl (by decide) rfl (fun ls hl => ?_)
  replace hl : lv_has ls 3 [(2, .ref q9), (0, .ref oN), (1, .ref aO)] := hl
  refine lv_iconst (v := nI 1) hx hb d_Law_add_12 (by decide) ?_
  exact W.iret (v := nI 1) hx hb hr (fun t ht hW => ⟨⟨_, (), rfl, rfl, by rw [ht]; exact hP, hD⟩, hS.F ht⟩) hS.2.2 d_Law_add_13

set_option maxHeartbeats 4000000 in
set_option maxRecDepth 100000 in
theorem c_Law_remove_no (l : Launch) (dC : Nat → ClassId) (dI : Nat → Nat → Nat) (sz : Nat) (cJ : ClassId) (cB cI : ClassId) (oN oI oT oW oR oP oM oE : Nat) (aI ni : Nat) (ci : Nat → Nat) (aT nt : Nat) (aW bW wn : Nat) (C st : Nat → Nat) (hwn : wn ≤ 1000) (hm : ∀ i, i < wn → st i ≤ st (i + 1) ∧ st (i + 1) ≤ 12000 ∧ st (i + 1) - st i ≤ 60) (hni : ni ≤ 60) (hC : ∀ j, C j < 127) (hci : ∀ j, ci j < 127) (hmono : ∀ i j, i < j → j < wn → nw_cm (fun k => C (st j + k)) (st (j + 1) - st j) ci ni < 0 → nw_cm (fun k => C (st i + k)) (st (i + 1) - st i) ci ni < 0) (pl : Nat) (hpl0 : pl = nw_cnt (fun i => nw_cm (fun k => C (st i + k)) (st (i + 1) - st i) ci ni < 0) wn) (h1 : 1 ≤ ni) (ho : ¬ (pl < wn ∧ nw_cm (fun k => C (st pl + k)) (st (pl + 1) - st pl) ci ni = 0)) (aO : Nat) (o : Nat → Nat)  : Met l y_Law_remove w_Law_remove ({ frames := 4, cells := 0, slots := 0, locals := 92 }) (nw_Pw [.ref oN, .ref aO] (dC, dI) nw_cls [(cB, .byte), (cI, .int), (cJ, .long)] [(oN, .inr (0, [.ref oI, .ref oT, .ref oW, .ref oR, .ref oP, .ref oM, .ref oE])), (oI, .inr (6, [.ref aI, .int (nI ni)])), (oT, .inr (6, [.ref aT, .int (nI nt)])), (aI, nw_ai cB 60 ci), (oW, .inr (7, [.ref aW, .ref bW, .int (nI wn)])), (aW, nw_ai cB 12000 C), (bW, nw_ai cI 1001 st), (aO, nw_al cJ 1 o)] sz) (va_Qi (fun (r : Int32) (_ : Unit) => r = nI 0) (nw_B (dC, dI) nw_cls (va_A [(oN, .inr (0, [.ref oI, .ref oT, .ref oW, .ref oR, .ref oP, .ref oM, .ref oE])), (oI, .inr (6, [.ref aI, .int (nI ni)])), (oT, .inr (6, [.ref aT, .int (nI nt)])), (aI, nw_ai cB 60 ci), (oW, .inr (7, [.ref aW, .ref bW, .int (nI wn)])), (aW, nw_ai cB 12000 C), (bW, nw_ai cI 1001 st), (aO, nw_al cJ 1 o)] sz) (fun _ : Unit => [(oN, .inr (0, [.ref oT, .ref oI, .ref oW, .ref oR, .ref oP, .ref oM, .ref oE])), (oI, .inr (6, [.ref aI, .int (nI ni)])), (oT, .inr (6, [.ref aT, .int (nI 0)])), (aI, nw_ai cB 60 ci), (oW, .inr (7, [.ref aW, .ref bW, .int (nI wn)])), (aW, nw_ai cB 12000 C), (bW, nw_ai cI 1001 st), (aO, nw_al cJ 1 (va_up o 0 (wn)))])) (va_A [(oN, .inr (0, [.ref oI, .ref oT, .ref oW, .ref oR, .ref oP, .ref oM, .ref oE])), (oI, .inr (6, [.ref aI, .int (nI ni)])), (oT, .inr (6, [.ref aT, .int (nI nt)])), (aI, nw_ai cB 60 ci), (oW, .inr (7, [.ref aW, .ref bW, .int (nI wn)])), (aW, nw_ai cB 12000 C), (bW, nw_ai cI 1001 st), (aO, nw_al cJ 1 o)] sz)) 0 0 (va_A [(oN, .inr (0, [.ref oI, .ref oT, .ref oW, .ref oR, .ref oP, .ref oM, .ref oE])), (oI, .inr (6, [.ref aI, .int (nI ni)])), (oT, .inr (6, [.ref aT, .int (nI nt)])), (aI, nw_ai cB 60 ci), (oW, .inr (7, [.ref aW, .ref bW, .int (nI wn)])), (aW, nw_ai cB 12000 C), (bW, nw_ai cI 1001 st), (aO, nw_al cJ 1 o)] sz) := by
  refine va_MetW (cc := b_Law_remove) (maxL := 3) (ret := (some .int)) (hh := [(0, 8, 11, 13)]) (by decide) rfl ?_
  intro p e s m args below meth cd s₁ B hml hv0
  obtain ⟨rfl, hsz, hP, hK, hD0⟩ := hv0
  have hx := B.exec
  have hb := B.bytes
  have hr := B.returns
  have hts := atoms_spec (ws := w_Law_remove) B.pre
  have hown : s.vm.findClass R_Law = some m.cls := findClass_of_methodNamed B.named
  have hlocks := B.notSynchronized
  subst hsz
  have hD := hD0.self (sz := s.heap.size)
  generalize hAe : va_A [(oN, .inr (0, [.ref oI, .ref oT, .ref oW, .ref oR, .ref oP, .ref oM, .ref oE])), (oI, .inr (6, [.ref aI, .int (nI ni)])), (oT, .inr (6, [.ref aT, .int (nI nt)])), (aI, nw_ai cB 60 ci), (oW, .inr (7, [.ref aW, .ref bW, .int (nI wn)])), (aW, nw_ai cB 12000 C), (bW, nw_ai cI 1001 st), (aO, nw_al cJ 1 o)] s.heap.size = A at hD ⊢
  have hA : ∀ q : Nat, s.heap.size ≤ q → A q := fun q h => by rw [← hAe]; exact Or.inr h
  have hS : va_S A s.heap s.heap [] := va_S.rf
  have hl := lv_entry ([.ref oN, .ref aO]) (n := 3) (Nat.le_of_ble_eq_true rfl)
  rw [lg_entry_eq]
  generalize (lg_sl ([.ref oN, .ref aO]) ++ List.replicate (3 - (lg_sl ([.ref oN, .ref aO])).length) Slot.unset).toArray = ls at hl ⊢
  have hl : lv_has ls 3 [(0, .ref oN), (1, .ref aO)] := hl
  refine lv_aload_n hx hb d_Law_remove_0 rfl (lv_at hl 1 rfl) ?_
  refine lv_iconst (v := nI 0) hx hb d_Law_remove_1 (by decide) ?_
  refine lv_aload_n hx hb d_Law_remove_2 rfl (lv_at hl 0 rfl) ?_
  refine nw_calli (wc := [(oN, .inr (0, [.ref oI, .ref oT, .ref oW, .ref oR, .ref oP, .ref oM, .ref oE])), (oI, .inr (6, [.ref aI, .int (nI ni)])), (oT, .inr (6, [.ref aT, .int (nI nt)])), (aI, nw_ai cB 60 ci), (oW, .inr (7, [.ref aW, .ref bW, .int (nI wn)])), (aW, nw_ai cB 12000 C), (bW, nw_ai cI 1001 st)]) (wr := [(aO, nw_al cJ 1 o)]) hP hD hS hA [0, 1, 2, 3, 4, 5, 6] [7] rfl rfl (by decide) (by decide) (va_runV (As := []) (rest := [.int (nI 0), .ref aO]) ⟨hx, hb, hml, hown, hts⟩ (c_NW_remove_no l dC dI _ cB cI oN oI oT oW oR oP oM oE aI ni ci aT nt aW bW wn C st hwn hm hni hC hci hmono pl hpl0 h1 ho) (cwV (C := R_NW) 0 hts (nw_GV (nw_m 340 rfl) (nw_m 341 rfl) (nw_m 342 rfl) (nw_m 43 rfl) (nw_m 343 rfl)) rfl rfl rfl (by decide +kernel) ⟨Nat.le_of_ble_eq_true rfl, Nat.le_of_ble_eq_true rfl⟩) (nw_prewV (q0 := 0) (ci := 0) (q := (R_NW, F_NW, 7)) hK hP hD [0, 1, 2, 3, 4, 5, 6] [0, 1] (by decide) rfl rfl rfl rfl) rfl rfl hl.1 rfl (lv_room (Nat.le_of_ble_eq_true rfl)) d_Law_remove_3 ⟨Nat.le_of_ble_eq_true rfl, Nat.le_of_ble_eq_true rfl⟩) (fun r _ H locs hw hP hD hS => ?_)
  replace hP : va_P (dC, dI) nw_cls [(aO, nw_al cJ 1 o), (oN, .inr (0, [.ref oT, .ref oI, .ref oW, .ref oR, .ref oP, .ref oM, .ref oE])), (oI, .inr (6, [.ref aI, .int (nI ni)])), (oT, .inr (6, [.ref aT, .int (nI 0)])), (aI, nw_ai cB 60 ci), (oW, .inr (7, [.ref aW, .ref bW, .int (nI wn)])), (aW, nw_ai cB 12000 C), (bW, nw_ai cI 1001 st)] H := hP
  replace hD : va_D A [(aO, nw_al cJ 1 o), (oN, .inr (0, [.ref oT, .ref oI, .ref oW, .ref oR, .ref oP, .ref oM, .ref oE])), (oI, .inr (6, [.ref aI, .int (nI ni)])), (oT, .inr (6, [.ref aT, .int (nI 0)])), (aI, nw_ai cB 60 ci), (oW, .inr (7, [.ref aW, .ref bW, .int (nI wn)])), (aW, nw_ai cB 12000 C), (bW, nw_ai cI 1001 st)] := hD
  obtain rfl : r = nI wn := hw
  skip
  refine lv_i2l (v := lN wn) hx hb d_Law_remove_6 (nI_l (by omega)) ?_
  refine nw_last hx hb hK hP hD hS 0 2 rfl rfl (k := 0) (v := wn) (by omega) (by first | decide | omega) d_Law_remove_7 (fun H locs hP hD hS => ?_)
  replace hP : va_P (dC, dI) nw_cls [(aO, nw_al cJ 1 (va_up o 0 wn)), (oN, .inr (0, [.ref oT, .ref oI, .ref oW, .ref oR, .ref oP, .ref oM, .ref oE])), (oI, .inr (6, [.ref aI, .int (nI ni)])), (oT, .inr (6, [.ref aT, .int (nI 0)])), (aI, nw_ai cB 60 ci), (oW, .inr (7, [.ref aW, .ref bW, .int (nI wn)])), (aW, nw_ai cB 12000 C), (bW, nw_ai cI 1001 st)] H := hP
  replace hD : va_D A [(aO, nw_al cJ 1 (va_up o 0 wn)), (oN, .inr (0, [.ref oT, .ref oI, .ref oW, .ref oR, .ref oP, .ref oM, .ref oE])), (oI, .inr (6, [.ref aI, .int (nI ni)])), (oT, .inr (6, [.ref aT, .int (nI 0)])), (aI, nw_ai cB 60 ci), (oW, .inr (7, [.ref aW, .ref bW, .int (nI wn)])), (aW, nw_ai cB 12000 C), (bW, nw_ai cI 1001 st)] := hD
  refine lv_goto hx hb d_Law_remove_8 (tgt := 14) (by decide) ?_
  refine lv_iconst (v := nI 0) hx hb d_Law_remove_14 (by decide) ?_
  have hP := hP.sub (ws' := [(oN, .inr (0, [.ref oT, .ref oI, .ref oW, .ref oR, .ref oP, .ref oM, .ref oE])), (oI, .inr (6, [.ref aI, .int (nI ni)])), (oT, .inr (6, [.ref aT, .int (nI 0)])), (aI, nw_ai cB 60 ci), (oW, .inr (7, [.ref aW, .ref bW, .int (nI wn)])), (aW, nw_ai cB 12000 C), (bW, nw_ai cI 1001 st), (aO, nw_al cJ 1 (va_up o 0 wn))]) [1, 2, 3, 4, 5, 6, 7, 0] rfl
  have hD := hD.sub (ws' := [(oN, .inr (0, [.ref oT, .ref oI, .ref oW, .ref oR, .ref oP, .ref oM, .ref oE])), (oI, .inr (6, [.ref aI, .int (nI ni)])), (oT, .inr (6, [.ref aT, .int (nI 0)])), (aI, nw_ai cB 60 ci), (oW, .inr (7, [.ref aW, .ref bW, .int (nI wn)])), (aW, nw_ai cB 12000 C), (bW, nw_ai cI 1001 st), (aO, nw_al cJ 1 (va_up o 0 wn))]) [1, 2, 3, 4, 5, 6, 7, 0] (by decide) rfl
  exact W.iret (v := nI 0) hx hb hr (fun t ht hW => ⟨⟨_, (), rfl, rfl, by rw [ht]; exact hP, hD⟩, hS.F ht⟩) hS.2.2 d_Law_remove_15

set_option maxHeartbeats 4000000 in
set_option maxRecDepth 100000 in
theorem c_Law_remove_yes (l : Launch) (dC : Nat → ClassId) (dI : Nat → Nat → Nat) (sz : Nat) (cJ : ClassId) (cB cI : ClassId) (oN oI oT oW oR oP oM oE : Nat) (aI ni : Nat) (ci : Nat → Nat) (aT nt : Nat) (aW bW wn : Nat) (C st : Nat → Nat) (hwn : wn ≤ 1000) (hm : ∀ i, i < wn → st i ≤ st (i + 1) ∧ st (i + 1) ≤ 12000 ∧ st (i + 1) - st i ≤ 60) (hni : ni ≤ 60) (hC : ∀ j, C j < 127) (hci : ∀ j, ci j < 127) (hmono : ∀ i j, i < j → j < wn → nw_cm (fun k => C (st j + k)) (st (j + 1) - st j) ci ni < 0 → nw_cm (fun k => C (st i + k)) (st (i + 1) - st i) ci ni < 0) (pl : Nat) (hpl0 : pl = nw_cnt (fun i => nw_cm (fun k => C (st i + k)) (st (i + 1) - st i) ci ni < 0) wn) (h1 : 1 ≤ ni) (ho : pl < wn ∧ nw_cm (fun k => C (st pl + k)) (st (pl + 1) - st pl) ci ni = 0) (hmo : ∀ i j, i ≤ j → j ≤ wn → st i ≤ st j) (hse : st wn ≤ 12000) (aO : Nat) (o : Nat → Nat)  : Met l y_Law_remove w_Law_remove ({ frames := 4, cells := 0, slots := 0, locals := 92 }) (nw_Pw [.ref oN, .ref aO] (dC, dI) nw_cls [(cB, .byte), (cI, .int), (cJ, .long)] [(oN, .inr (0, [.ref oI, .ref oT, .ref oW, .ref oR, .ref oP, .ref oM, .ref oE])), (oI, .inr (6, [.ref aI, .int (nI ni)])), (oT, .inr (6, [.ref aT, .int (nI nt)])), (aI, nw_ai cB 60 ci), (oW, .inr (7, [.ref aW, .ref bW, .int (nI wn)])), (aW, nw_ai cB 12000 C), (bW, nw_ai cI 1001 st), (aO, nw_al cJ 1 o)] sz) (va_Qi (fun (r : Int32) (_ : Unit) => r = nI 0) (nw_B (dC, dI) nw_cls (va_A [(oN, .inr (0, [.ref oI, .ref oT, .ref oW, .ref oR, .ref oP, .ref oM, .ref oE])), (oI, .inr (6, [.ref aI, .int (nI ni)])), (oT, .inr (6, [.ref aT, .int (nI nt)])), (aI, nw_ai cB 60 ci), (oW, .inr (7, [.ref aW, .ref bW, .int (nI wn)])), (aW, nw_ai cB 12000 C), (bW, nw_ai cI 1001 st), (aO, nw_al cJ 1 o)] sz) (fun _ : Unit => [(oN, .inr (0, [.ref oT, .ref oI, .ref oW, .ref oR, .ref oP, .ref oM, .ref oE])), (oI, .inr (6, [.ref aI, .int (nI ni)])), (oT, .inr (6, [.ref aT, .int (nI 0)])), (aI, nw_ai cB 60 ci), (oW, .inr (7, [.ref aW, .ref bW, .int (nI (wn - 1))])), (aW, nw_ai cB 12000 (va_cpy C C (st (pl + 1)) (st pl) (st wn - st (pl + 1)))), (bW, nw_ai cI 1001 (nw_del st pl wn (st (pl + 1) - st pl))), (aO, nw_al cJ 1 (va_up o 0 (wn - 1)))])) (va_A [(oN, .inr (0, [.ref oI, .ref oT, .ref oW, .ref oR, .ref oP, .ref oM, .ref oE])), (oI, .inr (6, [.ref aI, .int (nI ni)])), (oT, .inr (6, [.ref aT, .int (nI nt)])), (aI, nw_ai cB 60 ci), (oW, .inr (7, [.ref aW, .ref bW, .int (nI wn)])), (aW, nw_ai cB 12000 C), (bW, nw_ai cI 1001 st), (aO, nw_al cJ 1 o)] sz)) 0 0 (va_A [(oN, .inr (0, [.ref oI, .ref oT, .ref oW, .ref oR, .ref oP, .ref oM, .ref oE])), (oI, .inr (6, [.ref aI, .int (nI ni)])), (oT, .inr (6, [.ref aT, .int (nI nt)])), (aI, nw_ai cB 60 ci), (oW, .inr (7, [.ref aW, .ref bW, .int (nI wn)])), (aW, nw_ai cB 12000 C), (bW, nw_ai cI 1001 st), (aO, nw_al cJ 1 o)] sz) := by
  refine va_MetW (cc := b_Law_remove) (maxL := 3) (ret := (some .int)) (hh := [(0, 8, 11, 13)]) (by decide) rfl ?_
  intro p e s m args below meth cd s₁ B hml hv0
  obtain ⟨rfl, hsz, hP, hK, hD0⟩ := hv0
  have hx := B.exec
  have hb := B.bytes
  have hr := B.returns
  have hts := atoms_spec (ws := w_Law_remove) B.pre
  have hown : s.vm.findClass R_Law = some m.cls := findClass_of_methodNamed B.named
  have hlocks := B.notSynchronized
  subst hsz
  have hD := hD0.self (sz := s.heap.size)
  generalize hAe : va_A [(oN, .inr (0, [.ref oI, .ref oT, .ref oW, .ref oR, .ref oP, .ref oM, .ref oE])), (oI, .inr (6, [.ref aI, .int (nI ni)])), (oT, .inr (6, [.ref aT, .int (nI nt)])), (aI, nw_ai cB 60 ci), (oW, .inr (7, [.ref aW, .ref bW, .int (nI wn)])), (aW, nw_ai cB 12000 C), (bW, nw_ai cI 1001 st), (aO, nw_al cJ 1 o)] s.heap.size = A at hD ⊢
  have hA : ∀ q : Nat, s.heap.size ≤ q → A q := fun q h => by rw [← hAe]; exact Or.inr h
  have hS : va_S A s.heap s.heap [] := va_S.rf
  have hl := lv_entry ([.ref oN, .ref aO]) (n := 3) (Nat.le_of_ble_eq_true rfl)
  rw [lg_entry_eq]
  generalize (lg_sl ([.ref oN, .ref aO]) ++ List.replicate (3 - (lg_sl ([.ref oN, .ref aO])).length) Slot.unset).toArray = ls at hl ⊢
  have hl : lv_has ls 3 [(0, .ref oN), (1, .ref aO)] := hl
  refine lv_aload_n hx hb d_Law_remove_0 rfl (lv_at hl 1 rfl) ?_
  refine lv_iconst (v := nI 0) hx hb d_Law_remove_1 (by decide) ?_
  refine lv_aload_n hx hb d_Law_remove_2 rfl (lv_at hl 0 rfl) ?_
  refine nw_calli (wc := [(oN, .inr (0, [.ref oI, .ref oT, .ref oW, .ref oR, .ref oP, .ref oM, .ref oE])), (oI, .inr (6, [.ref aI, .int (nI ni)])), (oT, .inr (6, [.ref aT, .int (nI nt)])), (aI, nw_ai cB 60 ci), (oW, .inr (7, [.ref aW, .ref bW, .int (nI wn)])), (aW, nw_ai cB 12000 C), (bW, nw_ai cI 1001 st)]) (wr := [(aO, nw_al cJ 1 o)]) hP hD hS hA [0, 1, 2, 3, 4, 5, 6] [7] rfl rfl (by decide) (by decide) (va_runV (As := []) (rest := [.int (nI 0), .ref aO]) ⟨hx, hb, hml, hown, hts⟩ (c_NW_remove_yes l dC dI _ cB cI oN oI oT oW oR oP oM oE aI ni ci aT nt aW bW wn C st hwn hm hni hC hci hmono pl hpl0 h1 ho hmo hse) (cwV (C := R_NW) 0 hts (nw_GV (nw_m 340 rfl) (nw_m 341 rfl) (nw_m 342 rfl) (nw_m 43 rfl) (nw_m 343 rfl)) rfl rfl rfl (by decide +kernel) ⟨Nat.le_of_ble_eq_true rfl, Nat.le_of_ble_eq_true rfl⟩) (nw_prewV (q0 := 0) (ci := 0) (q := (R_NW, F_NW, 7)) hK hP hD [0, 1, 2, 3, 4, 5, 6] [0, 1] (by decide) rfl rfl rfl rfl) rfl rfl hl.1 rfl (lv_room (Nat.le_of_ble_eq_true rfl)) d_Law_remove_3 ⟨Nat.le_of_ble_eq_true rfl, Nat.le_of_ble_eq_true rfl⟩) (fun r _ H locs hw hP hD hS => ?_)
  replace hP : va_P (dC, dI) nw_cls [(aO, nw_al cJ 1 o), (oN, .inr (0, [.ref oT, .ref oI, .ref oW, .ref oR, .ref oP, .ref oM, .ref oE])), (oI, .inr (6, [.ref aI, .int (nI ni)])), (oT, .inr (6, [.ref aT, .int (nI 0)])), (aI, nw_ai cB 60 ci), (oW, .inr (7, [.ref aW, .ref bW, .int (nI (wn - 1))])), (aW, nw_ai cB 12000 (va_cpy C C (st (pl + 1)) (st pl) (st wn - st (pl + 1)))), (bW, nw_ai cI 1001 (nw_del st pl wn (st (pl + 1) - st pl)))] H := hP
  replace hD : va_D A [(aO, nw_al cJ 1 o), (oN, .inr (0, [.ref oT, .ref oI, .ref oW, .ref oR, .ref oP, .ref oM, .ref oE])), (oI, .inr (6, [.ref aI, .int (nI ni)])), (oT, .inr (6, [.ref aT, .int (nI 0)])), (aI, nw_ai cB 60 ci), (oW, .inr (7, [.ref aW, .ref bW, .int (nI (wn - 1))])), (aW, nw_ai cB 12000 (va_cpy C C (st (pl + 1)) (st pl) (st wn - st (pl + 1)))), (bW, nw_ai cI 1001 (nw_del st pl wn (st (pl + 1) - st pl)))] := hD
  obtain rfl : r = nI (wn - 1) := hw
  skip
  refine lv_i2l (v := lN (wn - 1)) hx hb d_Law_remove_6 (nI_l (by omega)) ?_
  refine nw_last hx hb hK hP hD hS 0 2 rfl rfl (k := 0) (v := (wn - 1)) (by omega) (by first | decide | omega) d_Law_remove_7 (fun H locs hP hD hS => ?_)
  replace hP : va_P (dC, dI) nw_cls [(aO, nw_al cJ 1 (va_up o 0 (wn - 1))), (oN, .inr (0, [.ref oT, .ref oI, .ref oW, .ref oR, .ref oP, .ref oM, .ref oE])), (oI, .inr (6, [.ref aI, .int (nI ni)])), (oT, .inr (6, [.ref aT, .int (nI 0)])), (aI, nw_ai cB 60 ci), (oW, .inr (7, [.ref aW, .ref bW, .int (nI (wn - 1))])), (aW, nw_ai cB 12000 (va_cpy C C (st (pl + 1)) (st pl) (st wn - st (pl + 1)))), (bW, nw_ai cI 1001 (nw_del st pl wn (st (pl + 1) - st pl)))] H := hP
  replace hD : va_D A [(aO, nw_al cJ 1 (va_up o 0 (wn - 1))), (oN, .inr (0, [.ref oT, .ref oI, .ref oW, .ref oR, .ref oP, .ref oM, .ref oE])), (oI, .inr (6, [.ref aI, .int (nI ni)])), (oT, .inr (6, [.ref aT, .int (nI 0)])), (aI, nw_ai cB 60 ci), (oW, .inr (7, [.ref aW, .ref bW, .int (nI (wn - 1))])), (aW, nw_ai cB 12000 (va_cpy C C (st (pl + 1)) (st pl) (st wn - st (pl + 1)))), (bW, nw_ai cI 1001 (nw_del st pl wn (st (pl + 1) - st pl)))] := hD
  refine lv_goto hx hb d_Law_remove_8 (tgt := 14) (by decide) ?_
  refine lv_iconst (v := nI 0) hx hb d_Law_remove_14 (by decide) ?_
  have hP := hP.sub (ws' := [(oN, .inr (0, [.ref oT, .ref oI, .ref oW, .ref oR, .ref oP, .ref oM, .ref oE])), (oI, .inr (6, [.ref aI, .int (nI ni)])), (oT, .inr (6, [.ref aT, .int (nI 0)])), (aI, nw_ai cB 60 ci), (oW, .inr (7, [.ref aW, .ref bW, .int (nI (wn - 1))])), (aW, nw_ai cB 12000 (va_cpy C C (st (pl + 1)) (st pl) (st wn - st (pl + 1)))), (bW, nw_ai cI 1001 (nw_del st pl wn (st (pl + 1) - st pl))), (aO, nw_al cJ 1 (va_up o 0 (wn - 1)))]) [1, 2, 3, 4, 5, 6, 7, 0] rfl
  have hD := hD.sub (ws' := [(oN, .inr (0, [.ref oT, .ref oI, .ref oW, .ref oR, .ref oP, .ref oM, .ref oE])), (oI, .inr (6, [.ref aI, .int (nI ni)])), (oT, .inr (6, [.ref aT, .int (nI 0)])), (aI, nw_ai cB 60 ci), (oW, .inr (7, [.ref aW, .ref bW, .int (nI (wn - 1))])), (aW, nw_ai cB 12000 (va_cpy C C (st (pl + 1)) (st pl) (st wn - st (pl + 1)))), (bW, nw_ai cI 1001 (nw_del st pl wn (st (pl + 1) - st pl))), (aO, nw_al cJ 1 (va_up o 0 (wn - 1)))]) [1, 2, 3, 4, 5, 6, 7, 0] (by decide) rfl
  exact W.iret (v := nI 0) hx hb hr (fun t ht hW => ⟨⟨_, (), rfl, rfl, by rw [ht]; exact hP, hD⟩, hS.F ht⟩) hS.2.2 d_Law_remove_15

set_option maxHeartbeats 4000000 in
set_option maxRecDepth 100000 in
theorem c_Law_remove_bad (l : Launch) (hlt : l.stackTraces = false) (dC : Nat → ClassId) (dI : Nat → Nat → Nat) (sz : Nat) (oN oI oT oW oR oP oM oE : Nat) (aI ni aT nt : Nat) (hz : ni = 0) (aO : Nat) : Met l y_Law_remove w_Law_remove ({ frames := 7, cells := 1, slots := 6, locals := 103 }) (nx_Pw [.ref oN, .ref aO] (dC, dI) nw_cls [] [(oN, .inr (0, [.ref oI, .ref oT, .ref oW, .ref oR, .ref oP, .ref oM, .ref oE])), (oI, .inr (6, [.ref aI, .int (nI ni)])), (oT, .inr (6, [.ref aT, .int (nI nt)]))] sz) (va_Qi (fun (r : Int32) (_ : Unit) => r = nI 1) (nw_B (dC, dI) nw_cls (va_A [(oN, .inr (0, [.ref oI, .ref oT, .ref oW, .ref oR, .ref oP, .ref oM, .ref oE])), (oI, .inr (6, [.ref aI, .int (nI ni)])), (oT, .inr (6, [.ref aT, .int (nI nt)]))] sz) (fun _ : Unit => [(oN, .inr (0, [.ref oT, .ref oI, .ref oW, .ref oR, .ref oP, .ref oM, .ref oE])), (oI, .inr (6, [.ref aI, .int (nI ni)])), (oT, .inr (6, [.ref aT, .int (nI 0)]))])) (va_A [(oN, .inr (0, [.ref oI, .ref oT, .ref oW, .ref oR, .ref oP, .ref oM, .ref oE])), (oI, .inr (6, [.ref aI, .int (nI ni)])), (oT, .inr (6, [.ref aT, .int (nI nt)]))] sz)) 1 6 (va_A [(oN, .inr (0, [.ref oI, .ref oT, .ref oW, .ref oR, .ref oP, .ref oM, .ref oE])), (oI, .inr (6, [.ref aI, .int (nI ni)])), (oT, .inr (6, [.ref aT, .int (nI nt)]))] sz) := by
  refine va_MetW (cc := b_Law_remove) (maxL := 3) (ret := (some .int)) (hh := [(0, 8, 11, 13)]) (by decide) rfl ?_
  intro p e s m args below meth cd s₁ B hml hv0
  obtain ⟨rfl, hsz, hP, hK, hD0, hok⟩ := hv0
  have hx := B.exec
  have hb := B.bytes
  have hr := B.returns
  have hts := atoms_spec (ws := w_Law_remove) B.pre
  have hown : s.vm.findClass R_Law = some m.cls := findClass_of_methodNamed B.named
  have hlocks := B.notSynchronized
  subst hsz
  have hD := hD0.self (sz := s.heap.size)
  generalize hAe : va_A [(oN, .inr (0, [.ref oI, .ref oT, .ref oW, .ref oR, .ref oP, .ref oM, .ref oE])), (oI, .inr (6, [.ref aI, .int (nI ni)])), (oT, .inr (6, [.ref aT, .int (nI nt)]))] s.heap.size = A at hD hok ⊢
  have hA : ∀ q : Nat, s.heap.size ≤ q → A q := fun q h => by rw [← hAe]; exact Or.inr h
  have hS : va_S A s.heap s.heap [] := va_S.rf
  have hl := lv_entry ([.ref oN, .ref aO]) (n := 3) (Nat.le_of_ble_eq_true rfl)
  rw [lg_entry_eq]
  generalize (lg_sl ([.ref oN, .ref aO]) ++ List.replicate (3 - (lg_sl ([.ref oN, .ref aO])).length) Slot.unset).toArray = ls at hl ⊢
  have hl : lv_has ls 3 [(0, .ref oN), (1, .ref aO)] := hl
  obtain ⟨m9, meth9, c9, hn9, hm9, hc9, -, -, htab, -⟩ := Cond.codeWith_spec (hts _ List.mem_cons_self)
  cases B.named.symm.trans hn9
  cases B.method.symm.trans hm9
  cases (Stand.of_body B).code.symm.trans hc9
  refine lv_aload_n hx hb d_Law_remove_0 rfl (lv_at hl 1 rfl) ?_
  refine lv_iconst (v := nI 0) hx hb d_Law_remove_1 (by decide) ?_
  refine lv_aload_n hx hb d_Law_remove_2 rfl (lv_at hl 0 rfl) ?_
  have hokH := hok.kept hS.2.1
  have hFc := va_free (wc := [(oN, .inr (0, [.ref oI, .ref oT, .ref oW, .ref oR, .ref oP, .ref oM, .ref oE])), (oI, .inr (6, [.ref aI, .int (nI ni)])), (oT, .inr (6, [.ref aT, .int (nI nt)]))]) hD hS hA [0, 1, 2] rfl
  refine nx_catchA hx hb (hml.trans hl.1.symm) hown hokH (cwV (C := R_NW) 0 hts (nw_GV (nw_m 340 rfl) (nw_m 341 rfl) (nw_m 342 rfl) (nw_m 43 rfl) (nw_m 343 rfl)) rfl rfl rfl (by decide +kernel) ⟨Nat.le_of_ble_eq_true rfl, Nat.le_of_ble_eq_true rfl⟩) (c_NW_remove_bad l hlt dC dI _ oN oI oT oW oR oP oM oE aI ni aT nt hz) (As := []) (rest := [.int (nI 0), .ref aO]) (nx_prewV (H0 := s.heap) (locs := []) (q0 := 0) (ci := 0) (q := (R_NW, F_NW, 7)) hokH hFc hK hP hD [0, 1, 2] [] (by decide) rfl rfl rfl rfl) rfl rfl (Nat.le_of_ble_eq_true rfl) d_Law_remove_3 ⟨Nat.le_of_ble_eq_true rfl, Nat.le_of_ble_eq_true rfl⟩ hS hFc htab (by decide) (by decide) (by decide) (hts _ (nw_mc 434 rfl)) (fun q9 H locs hP hD hS => ?_)
  replace hP : va_P (dC, dI) nw_cls [(oN, .inr (0, [.ref oT, .ref oI, .ref oW, .ref oR, .ref oP, .ref oM, .ref oE])), (oI, .inr (6, [.ref aI, .int (nI ni)])), (oT, .inr (6, [.ref aT, .int (nI 0)]))] H := hP
  replace hD : va_D A [(oN, .inr (0, [.ref oT, .ref oI, .ref oW, .ref oR, .ref oP, .ref oM, .ref oE])), (oI, .inr (6, [.ref aI, .int (nI ni)])), (oT, .inr (6, [.ref aT, .int (nI 0)]))] := hD
  refine lv_astore_n hx hb d_Law_remove_11 rfl hl (by decide) rfl (fun ls hl => ?_)
  replace hl : lv_has ls 3 [(2, .ref q9), (0, .ref oN), (1, .ref aO)] := hl
  refine lv_iconst (v := nI 1) hx hb d_Law_remove_12 (by decide) ?_
  exact W.iret (v := nI 1) hx hb hr (fun t ht hW => ⟨⟨_, (), rfl, rfl, by rw [ht]; exact hP, hD⟩, hS.F ht⟩) hS.2.2 d_Law_remove_13

set_option maxHeartbeats 4000000 in
set_option maxRecDepth 100000 in
theorem c_Law_near (l : Launch) (dC : Nat → ClassId) (dI : Nat → Nat → Nat) (sz : Nat) (cB cF cG cI cJ : ClassId) (oN oI oT oW oR oP oM oE : Nat) (aI ni : Nat) (ci : Nat → Nat) (aT nt : Nat) (aW bW wn : Nat) (C st : Nat → Nat) (aC aL aS rn : Nat) (RL RD rz : Nat → Nat) (M : Nat → Nat → Nat) (aM aG mn : Nat) (P ry : Nat → Nat) (Ml : Nat → Nat → Nat) (aE wE : Nat) (T : Nat → Int32) (Wc : Nat → Nat) (ms : Nat) (hms : ms ≤ 3) (h1 : 1 ≤ ni) (hL1 : ∀ i, i < wn → 1 ≤ st (i + 1) - st i) (hwn : wn ≤ 1000) (hm : ∀ i, i < wn → st i ≤ st (i + 1) ∧ st (i + 1) ≤ 12000 ∧ st (i + 1) - st i ≤ 60) (hni : ni ≤ 60) (hC : ∀ j, C j < 127) (hci : ∀ j, ci j < 127) (hMl : ∀ d, d ≤ 3 → Ml 0 d = 2 ^ (d + 1) - 1) (aO : Nat) (o : Nat → Nat)  : Met l y_Law_near w_Law_near ({ frames := 5, cells := 0, slots := 0, locals := 118 }) (nw_Pw [.ref oN, .int (nI ms), .ref aO] (dC, dI) nw_cls [(cB, .byte), (cF, (.array .byte)), (cG, (.array .long)), (cI, .int), (cJ, .long)] ([(oN, .inr (0, [.ref oI, .ref oT, .ref oW, .ref oR, .ref oP, .ref oM, .ref oE])), (oI, .inr (6, [.ref aI, .int (nI ni)])), (oT, .inr (6, [.ref aT, .int (nI nt)])), (aI, nw_ai cB 60 ci), (oW, .inr (7, [.ref aW, .ref bW, .int (nI wn)])), (aW, nw_ai cB 12000 C), (bW, nw_ai cI 1001 st), (oR, .inr (5, [.ref aC, .ref aL, .ref aS, .int (nI rn)])), (aC, nw_ar cF 50 (fun k => some (rz k))), (aL, nw_ai cI 50 RL), (aS, nw_ai cI 50 RD), (oM, .inr (2, [.ref aM, .ref aG, .int (nI mn)])), (aM, nw_al cJ 127 P), (aG, nw_ar cG 61 (fun k => some (ry k))), (oE, .inr (3, [.ref aE, .ref wE])), (aE, nw_aw cB 1000 T), (wE, nw_ai cI 4 Wc), (aO, nw_al cJ 1 o)] ++ (nw_rb 50 cB 60 rz M ++ nw_rl 61 cJ 4 ry Ml)) sz) (va_Qi (fun (r : Int32) (u : (Nat → Nat) × (Nat → Nat) × (Nat → Nat → Nat) × (Nat → Nat) × (Nat → Int32) × (Nat → Nat) × (Nat → Nat → Nat)) => r = nI 0 ∧ ((fun (r : Int32) (u : (Nat → Nat) × (Nat → Nat) × (Nat → Nat → Nat) × (Nat → Nat) × (Nat → Int32) × (Nat → Nat) × (Nat → Nat → Nat)) => r = nI (nw_cnt (nw_sl (fun i => nw_E (nw_D (fun k => C (st i + k)) ci (st (i + 1) - st i) ni) ni (st (i + 1) - st i) ms) wn ms) wn) ∧ nw_kp (nw_sl (fun i => nw_E (nw_D (fun k => C (st i + k)) ci (st (i + 1) - st i) ni) ni (st (i + 1) - st i) ms) wn ms) (fun i => nw_E (nw_D (fun k => C (st i + k)) ci (st (i + 1) - st i) ni) ni (st (i + 1) - st i) ms) wn (fun i k => C (st i + k)) (fun i => st (i + 1) - st i) u.2.2.1 u.1 u.2.1 ∧ ∀ d, d ≤ 3 → u.2.2.2.2.2.2 0 d = 2 ^ (d + 1) - 1)) (nI (nw_cnt (nw_sl (fun i => nw_E (nw_D (fun k => C (st i + k)) ci (st (i + 1) - st i) ni) ni (st (i + 1) - st i) ms) wn ms) wn)) u) (nw_B (dC, dI) nw_cls (va_A ([(oN, .inr (0, [.ref oI, .ref oT, .ref oW, .ref oR, .ref oP, .ref oM, .ref oE])), (oI, .inr (6, [.ref aI, .int (nI ni)])), (oT, .inr (6, [.ref aT, .int (nI nt)])), (aI, nw_ai cB 60 ci), (oW, .inr (7, [.ref aW, .ref bW, .int (nI wn)])), (aW, nw_ai cB 12000 C), (bW, nw_ai cI 1001 st), (oR, .inr (5, [.ref aC, .ref aL, .ref aS, .int (nI rn)])), (aC, nw_ar cF 50 (fun k => some (rz k))), (aL, nw_ai cI 50 RL), (aS, nw_ai cI 50 RD), (oM, .inr (2, [.ref aM, .ref aG, .int (nI mn)])), (aM, nw_al cJ 127 P), (aG, nw_ar cG 61 (fun k => some (ry k))), (oE, .inr (3, [.ref aE, .ref wE])), (aE, nw_aw cB 1000 T), (wE, nw_ai cI 4 Wc), (aO, nw_al cJ 1 o)] ++ (nw_rb 50 cB 60 rz M ++ nw_rl 61 cJ 4 ry Ml)) sz) (fun u => ([(oN, .inr (0, [.ref oT, .ref oI, .ref oW, .ref oR, .ref oP, .ref oM, .ref oE])), (oI, .inr (6, [.ref aI, .int (nI ni)])), (oT, .inr (6, [.ref aT, .int (nI 0)])), (aI, nw_ai cB 60 ci), (oW, .inr (7, [.ref aW, .ref bW, .int (nI wn)])), (aW, nw_ai cB 12000 C), (bW, nw_ai cI 1001 st), (oR, .inr (5, [.ref aC, .ref aL, .ref aS, .int (nI (nw_cnt (nw_sl (fun i => nw_E (nw_D (fun k => C (st i + k)) ci (st (i + 1) - st i) ni) ni (st (i + 1) - st i) ms) wn ms) wn))])), (aC, nw_ar cF 50 (fun k => some (rz k))), (aL, nw_ai cI 50 u.1), (aS, nw_ai cI 50 u.2.1), (oM, .inr (2, [.ref aM, .ref aG, .int (nI ni)])), (aM, nw_al cJ 127 u.2.2.2.1), (aG, nw_ar cG 61 (fun k => some (ry k))), (oE, .inr (3, [.ref aE, .ref wE])), (aE, nw_aw cB 1000 u.2.2.2.2.1), (wE, nw_ai cI 4 u.2.2.2.2.2.1), (aO, nw_al cJ 1 (va_up o 0 (nw_cnt (nw_sl (fun i => nw_E (nw_D (fun k => C (st i + k)) ci (st (i + 1) - st i) ni) ni (st (i + 1) - st i) ms) wn ms) wn)))] ++ (nw_rb 50 cB 60 rz u.2.2.1 ++ nw_rl 61 cJ 4 ry u.2.2.2.2.2.2)))) (va_A ([(oN, .inr (0, [.ref oI, .ref oT, .ref oW, .ref oR, .ref oP, .ref oM, .ref oE])), (oI, .inr (6, [.ref aI, .int (nI ni)])), (oT, .inr (6, [.ref aT, .int (nI nt)])), (aI, nw_ai cB 60 ci), (oW, .inr (7, [.ref aW, .ref bW, .int (nI wn)])), (aW, nw_ai cB 12000 C), (bW, nw_ai cI 1001 st), (oR, .inr (5, [.ref aC, .ref aL, .ref aS, .int (nI rn)])), (aC, nw_ar cF 50 (fun k => some (rz k))), (aL, nw_ai cI 50 RL), (aS, nw_ai cI 50 RD), (oM, .inr (2, [.ref aM, .ref aG, .int (nI mn)])), (aM, nw_al cJ 127 P), (aG, nw_ar cG 61 (fun k => some (ry k))), (oE, .inr (3, [.ref aE, .ref wE])), (aE, nw_aw cB 1000 T), (wE, nw_ai cI 4 Wc), (aO, nw_al cJ 1 o)] ++ (nw_rb 50 cB 60 rz M ++ nw_rl 61 cJ 4 ry Ml)) sz)) 0 0 (va_A ([(oN, .inr (0, [.ref oI, .ref oT, .ref oW, .ref oR, .ref oP, .ref oM, .ref oE])), (oI, .inr (6, [.ref aI, .int (nI ni)])), (oT, .inr (6, [.ref aT, .int (nI nt)])), (aI, nw_ai cB 60 ci), (oW, .inr (7, [.ref aW, .ref bW, .int (nI wn)])), (aW, nw_ai cB 12000 C), (bW, nw_ai cI 1001 st), (oR, .inr (5, [.ref aC, .ref aL, .ref aS, .int (nI rn)])), (aC, nw_ar cF 50 (fun k => some (rz k))), (aL, nw_ai cI 50 RL), (aS, nw_ai cI 50 RD), (oM, .inr (2, [.ref aM, .ref aG, .int (nI mn)])), (aM, nw_al cJ 127 P), (aG, nw_ar cG 61 (fun k => some (ry k))), (oE, .inr (3, [.ref aE, .ref wE])), (aE, nw_aw cB 1000 T), (wE, nw_ai cI 4 Wc), (aO, nw_al cJ 1 o)] ++ (nw_rb 50 cB 60 rz M ++ nw_rl 61 cJ 4 ry Ml)) sz) := by
  refine va_MetW (cc := b_Law_near) (maxL := 4) (ret := (some .int)) (hh := [(0, 9, 12, 13)]) (by decide) rfl ?_
  intro p e s m args below meth cd s₁ B hml hv0
  obtain ⟨rfl, hsz, hP, hK, hD0⟩ := hv0
  have hx := B.exec
  have hb := B.bytes
  have hr := B.returns
  have hts := atoms_spec (ws := w_Law_near) B.pre
  have hown : s.vm.findClass R_Law = some m.cls := findClass_of_methodNamed B.named
  have hlocks := B.notSynchronized
  subst hsz
  have hD := hD0.self (sz := s.heap.size)
  generalize hAe : va_A ([(oN, .inr (0, [.ref oI, .ref oT, .ref oW, .ref oR, .ref oP, .ref oM, .ref oE])), (oI, .inr (6, [.ref aI, .int (nI ni)])), (oT, .inr (6, [.ref aT, .int (nI nt)])), (aI, nw_ai cB 60 ci), (oW, .inr (7, [.ref aW, .ref bW, .int (nI wn)])), (aW, nw_ai cB 12000 C), (bW, nw_ai cI 1001 st), (oR, .inr (5, [.ref aC, .ref aL, .ref aS, .int (nI rn)])), (aC, nw_ar cF 50 (fun k => some (rz k))), (aL, nw_ai cI 50 RL), (aS, nw_ai cI 50 RD), (oM, .inr (2, [.ref aM, .ref aG, .int (nI mn)])), (aM, nw_al cJ 127 P), (aG, nw_ar cG 61 (fun k => some (ry k))), (oE, .inr (3, [.ref aE, .ref wE])), (aE, nw_aw cB 1000 T), (wE, nw_ai cI 4 Wc), (aO, nw_al cJ 1 o)] ++ (nw_rb 50 cB 60 rz M ++ nw_rl 61 cJ 4 ry Ml)) s.heap.size = A at hD ⊢
  have hA : ∀ q : Nat, s.heap.size ≤ q → A q := fun q h => by rw [← hAe]; exact Or.inr h
  have hS : va_S A s.heap s.heap [] := va_S.rf
  have hl := lv_entry ([.ref oN, .int (nI ms), .ref aO]) (n := 4) (Nat.le_of_ble_eq_true rfl)
  rw [lg_entry_eq]
  generalize (lg_sl ([.ref oN, .int (nI ms), .ref aO]) ++ List.replicate (4 - (lg_sl ([.ref oN, .int (nI ms), .ref aO])).length) Slot.unset).toArray = ls at hl ⊢
  have hl : lv_has ls 4 [(0, .ref oN), (1, .int (nI ms)), (2, .ref aO)] := hl
  refine lv_aload_n hx hb d_Law_near_0 rfl (lv_at hl 2 rfl) ?_
  refine lv_iconst (v := nI 0) hx hb d_Law_near_1 (by decide) ?_
  refine lv_aload_n hx hb d_Law_near_2 rfl (lv_at hl 0 rfl) ?_
  refine lv_iload_n hx hb d_Law_near_3 rfl (lv_at hl 1 rfl) ?_
  refine nw_calliP (wc := [(oN, .inr (0, [.ref oI, .ref oT, .ref oW, .ref oR, .ref oP, .ref oM, .ref oE])), (oI, .inr (6, [.ref aI, .int (nI ni)])), (oT, .inr (6, [.ref aT, .int (nI nt)])), (aI, nw_ai cB 60 ci), (oW, .inr (7, [.ref aW, .ref bW, .int (nI wn)])), (aW, nw_ai cB 12000 C), (bW, nw_ai cI 1001 st), (oR, .inr (5, [.ref aC, .ref aL, .ref aS, .int (nI rn)])), (aC, nw_ar cF 50 (fun k => some (rz k))), (aL, nw_ai cI 50 RL), (aS, nw_ai cI 50 RD), (oM, .inr (2, [.ref aM, .ref aG, .int (nI mn)])), (aM, nw_al cJ 127 P), (aG, nw_ar cG 61 (fun k => some (ry k))), (oE, .inr (3, [.ref aE, .ref wE])), (aE, nw_aw cB 1000 T), (wE, nw_ai cI 4 Wc)]) (wr := [(aO, nw_al cJ 1 o)]) hP hD hS hA [0, 1, 2, 3, 4, 5, 6, 7, 8, 9, 10, 11, 12, 13, 14, 15, 16] [17] rfl rfl (by decide) (by decide) (va_runV (As := [.int (nI ms)]) (rest := [.int (nI 0), .ref aO]) ⟨hx, hb, hml, hown, hts⟩ (c_NW_near l dC dI _ cB cF cG cI cJ oN oI oT oW oR oP oM oE aI ni ci aT nt aW bW wn C st aC aL aS rn RL RD rz M aM aG mn P ry Ml aE wE T Wc ms hms h1 hL1 hwn hm hni hC hci hMl) (cwV (C := R_NW) 1 hts (nw_GV (nw_m 344 rfl) (nw_m 345 rfl) (nw_m 346 rfl) (nw_m 43 rfl) (nw_m 347 rfl)) rfl rfl rfl (by decide +kernel) ⟨Nat.le_of_ble_eq_true rfl, Nat.le_of_ble_eq_true rfl⟩) (nw_prewVP (q0 := 0) (ci := 0) (q := (R_NW, F_NW, 7)) hK hP hD [0, 1, 2, 3, 4, 5, 6, 7, 8, 9, 10, 11, 12, 13, 14, 15, 16] [0, 1, 2, 3, 4] (by decide) rfl rfl rfl rfl) rfl rfl hl.1 rfl (lv_room (Nat.le_of_ble_eq_true rfl)) d_Law_near_4 ⟨Nat.le_of_ble_eq_true rfl, Nat.le_of_ble_eq_true rfl⟩) (fun r u H locs hw hP hD hS => ?_)
  replace hP : va_P (dC, dI) nw_cls ([(aO, nw_al cJ 1 o), (oN, .inr (0, [.ref oT, .ref oI, .ref oW, .ref oR, .ref oP, .ref oM, .ref oE])), (oI, .inr (6, [.ref aI, .int (nI ni)])), (oT, .inr (6, [.ref aT, .int (nI 0)])), (aI, nw_ai cB 60 ci), (oW, .inr (7, [.ref aW, .ref bW, .int (nI wn)])), (aW, nw_ai cB 12000 C), (bW, nw_ai cI 1001 st), (oR, .inr (5, [.ref aC, .ref aL, .ref aS, .int (nI (nw_cnt (nw_sl (fun i => nw_E (nw_D (fun k => C (st i + k)) ci (st (i + 1) - st i) ni) ni (st (i + 1) - st i) ms) wn ms) wn))])), (aC, nw_ar cF 50 (fun k => some (rz k))), (aL, nw_ai cI 50 u.1), (aS, nw_ai cI 50 u.2.1), (oM, .inr (2, [.ref aM, .ref aG, .int (nI ni)])), (aM, nw_al cJ 127 u.2.2.2.1), (aG, nw_ar cG 61 (fun k => some (ry k))), (oE, .inr (3, [.ref aE, .ref wE])), (aE, nw_aw cB 1000 u.2.2.2.2.1), (wE, nw_ai cI 4 u.2.2.2.2.2.1)] ++ (nw_rb 50 cB 60 rz u.2.2.1 ++ nw_rl 61 cJ 4 ry u.2.2.2.2.2.2)) H := hP
  replace hD : va_D A ([(aO, nw_al cJ 1 o), (oN, .inr (0, [.ref oT, .ref oI, .ref oW, .ref oR, .ref oP, .ref oM, .ref oE])), (oI, .inr (6, [.ref aI, .int (nI ni)])), (oT, .inr (6, [.ref aT, .int (nI 0)])), (aI, nw_ai cB 60 ci), (oW, .inr (7, [.ref aW, .ref bW, .int (nI wn)])), (aW, nw_ai cB 12000 C), (bW, nw_ai cI 1001 st), (oR, .inr (5, [.ref aC, .ref aL, .ref aS, .int (nI (nw_cnt (nw_sl (fun i => nw_E (nw_D (fun k => C (st i + k)) ci (st (i + 1) - st i) ni) ni (st (i + 1) - st i) ms) wn ms) wn))])), (aC, nw_ar cF 50 (fun k => some (rz k))), (aL, nw_ai cI 50 u.1), (aS, nw_ai cI 50 u.2.1), (oM, .inr (2, [.ref aM, .ref aG, .int (nI ni)])), (aM, nw_al cJ 127 u.2.2.2.1), (aG, nw_ar cG 61 (fun k => some (ry k))), (oE, .inr (3, [.ref aE, .ref wE])), (aE, nw_aw cB 1000 u.2.2.2.2.1), (wE, nw_ai cI 4 u.2.2.2.2.2.1)] ++ (nw_rb 50 cB 60 rz u.2.2.1 ++ nw_rl 61 cJ 4 ry u.2.2.2.2.2.2)) := hD
  have hr9 := hw.1
  subst hr9
  have hb9 := nw_sl_le (fun i => nw_E (nw_D (fun k => C (st i + k)) ci (st (i + 1) - st i) ni) ni (st (i + 1) - st i) ms) wn ms
  refine lv_i2l (v := lN (nw_cnt (nw_sl (fun i => nw_E (nw_D (fun k => C (st i + k)) ci (st (i + 1) - st i) ni) ni (st (i + 1) - st i) ms) wn ms) wn)) hx hb d_Law_near_7 (nI_l (by omega)) ?_
  refine nw_last hx hb hK hP hD hS 0 4 rfl rfl (k := 0) (v := (nw_cnt (nw_sl (fun i => nw_E (nw_D (fun k => C (st i + k)) ci (st (i + 1) - st i) ni) ni (st (i + 1) - st i) ms) wn ms) wn)) (by omega) (by first | decide | omega) d_Law_near_8 (fun H locs hP hD hS => ?_)
  replace hP : va_P (dC, dI) nw_cls ([(aO, nw_al cJ 1 (va_up o 0 (nw_cnt (nw_sl (fun i => nw_E (nw_D (fun k => C (st i + k)) ci (st (i + 1) - st i) ni) ni (st (i + 1) - st i) ms) wn ms) wn))), (oN, .inr (0, [.ref oT, .ref oI, .ref oW, .ref oR, .ref oP, .ref oM, .ref oE])), (oI, .inr (6, [.ref aI, .int (nI ni)])), (oT, .inr (6, [.ref aT, .int (nI 0)])), (aI, nw_ai cB 60 ci), (oW, .inr (7, [.ref aW, .ref bW, .int (nI wn)])), (aW, nw_ai cB 12000 C), (bW, nw_ai cI 1001 st), (oR, .inr (5, [.ref aC, .ref aL, .ref aS, .int (nI (nw_cnt (nw_sl (fun i => nw_E (nw_D (fun k => C (st i + k)) ci (st (i + 1) - st i) ni) ni (st (i + 1) - st i) ms) wn ms) wn))])), (aC, nw_ar cF 50 (fun k => some (rz k))), (aL, nw_ai cI 50 u.1), (aS, nw_ai cI 50 u.2.1), (oM, .inr (2, [.ref aM, .ref aG, .int (nI ni)])), (aM, nw_al cJ 127 u.2.2.2.1), (aG, nw_ar cG 61 (fun k => some (ry k))), (oE, .inr (3, [.ref aE, .ref wE])), (aE, nw_aw cB 1000 u.2.2.2.2.1), (wE, nw_ai cI 4 u.2.2.2.2.2.1)] ++ (nw_rb 50 cB 60 rz u.2.2.1 ++ nw_rl 61 cJ 4 ry u.2.2.2.2.2.2)) H := hP
  replace hD : va_D A ([(aO, nw_al cJ 1 (va_up o 0 (nw_cnt (nw_sl (fun i => nw_E (nw_D (fun k => C (st i + k)) ci (st (i + 1) - st i) ni) ni (st (i + 1) - st i) ms) wn ms) wn))), (oN, .inr (0, [.ref oT, .ref oI, .ref oW, .ref oR, .ref oP, .ref oM, .ref oE])), (oI, .inr (6, [.ref aI, .int (nI ni)])), (oT, .inr (6, [.ref aT, .int (nI 0)])), (aI, nw_ai cB 60 ci), (oW, .inr (7, [.ref aW, .ref bW, .int (nI wn)])), (aW, nw_ai cB 12000 C), (bW, nw_ai cI 1001 st), (oR, .inr (5, [.ref aC, .ref aL, .ref aS, .int (nI (nw_cnt (nw_sl (fun i => nw_E (nw_D (fun k => C (st i + k)) ci (st (i + 1) - st i) ni) ni (st (i + 1) - st i) ms) wn ms) wn))])), (aC, nw_ar cF 50 (fun k => some (rz k))), (aL, nw_ai cI 50 u.1), (aS, nw_ai cI 50 u.2.1), (oM, .inr (2, [.ref aM, .ref aG, .int (nI ni)])), (aM, nw_al cJ 127 u.2.2.2.1), (aG, nw_ar cG 61 (fun k => some (ry k))), (oE, .inr (3, [.ref aE, .ref wE])), (aE, nw_aw cB 1000 u.2.2.2.2.1), (wE, nw_ai cI 4 u.2.2.2.2.2.1)] ++ (nw_rb 50 cB 60 rz u.2.2.1 ++ nw_rl 61 cJ 4 ry u.2.2.2.2.2.2)) := hD
  refine lv_goto hx hb d_Law_near_9 (tgt := 15) (by decide) ?_
  refine lv_iconst (v := nI 0) hx hb d_Law_near_15 (by decide) ?_
  have hP := hP.part (cx := [(oN, .inr (0, [.ref oT, .ref oI, .ref oW, .ref oR, .ref oP, .ref oM, .ref oE])), (oI, .inr (6, [.ref aI, .int (nI ni)])), (oT, .inr (6, [.ref aT, .int (nI 0)])), (aI, nw_ai cB 60 ci), (oW, .inr (7, [.ref aW, .ref bW, .int (nI wn)])), (aW, nw_ai cB 12000 C), (bW, nw_ai cI 1001 st), (oR, .inr (5, [.ref aC, .ref aL, .ref aS, .int (nI (nw_cnt (nw_sl (fun i => nw_E (nw_D (fun k => C (st i + k)) ci (st (i + 1) - st i) ni) ni (st (i + 1) - st i) ms) wn ms) wn))])), (aC, nw_ar cF 50 (fun k => some (rz k))), (aL, nw_ai cI 50 u.1), (aS, nw_ai cI 50 u.2.1), (oM, .inr (2, [.ref aM, .ref aG, .int (nI ni)])), (aM, nw_al cJ 127 u.2.2.2.1), (aG, nw_ar cG 61 (fun k => some (ry k))), (oE, .inr (3, [.ref aE, .ref wE])), (aE, nw_aw cB 1000 u.2.2.2.2.1), (wE, nw_ai cI 4 u.2.2.2.2.2.1), (aO, nw_al cJ 1 (va_up o 0 (nw_cnt (nw_sl (fun i => nw_E (nw_D (fun k => C (st i + k)) ci (st (i + 1) - st i) ni) ni (st (i + 1) - st i) ms) wn ms) wn)))]) [1, 2, 3, 4, 5, 6, 7, 8, 9, 10, 11, 12, 13, 14, 15, 16, 17, 0] rfl
  have hD := hD.part (cx := [(oN, .inr (0, [.ref oT, .ref oI, .ref oW, .ref oR, .ref oP, .ref oM, .ref oE])), (oI, .inr (6, [.ref aI, .int (nI ni)])), (oT, .inr (6, [.ref aT, .int (nI 0)])), (aI, nw_ai cB 60 ci), (oW, .inr (7, [.ref aW, .ref bW, .int (nI wn)])), (aW, nw_ai cB 12000 C), (bW, nw_ai cI 1001 st), (oR, .inr (5, [.ref aC, .ref aL, .ref aS, .int (nI (nw_cnt (nw_sl (fun i => nw_E (nw_D (fun k => C (st i + k)) ci (st (i + 1) - st i) ni) ni (st (i + 1) - st i) ms) wn ms) wn))])), (aC, nw_ar cF 50 (fun k => some (rz k))), (aL, nw_ai cI 50 u.1), (aS, nw_ai cI 50 u.2.1), (oM, .inr (2, [.ref aM, .ref aG, .int (nI ni)])), (aM, nw_al cJ 127 u.2.2.2.1), (aG, nw_ar cG 61 (fun k => some (ry k))), (oE, .inr (3, [.ref aE, .ref wE])), (aE, nw_aw cB 1000 u.2.2.2.2.1), (wE, nw_ai cI 4 u.2.2.2.2.2.1), (aO, nw_al cJ 1 (va_up o 0 (nw_cnt (nw_sl (fun i => nw_E (nw_D (fun k => C (st i + k)) ci (st (i + 1) - st i) ni) ni (st (i + 1) - st i) ms) wn ms) wn)))]) [1, 2, 3, 4, 5, 6, 7, 8, 9, 10, 11, 12, 13, 14, 15, 16, 17, 0] (by decide) rfl
  exact W.iret (v := nI 0) hx hb hr (fun t ht hW => ⟨⟨_, u, rfl, ⟨rfl, hw⟩, by rw [ht]; exact hP, hD⟩, hS.F ht⟩) hS.2.2 d_Law_near_16

set_option maxHeartbeats 4000000 in
set_option maxRecDepth 100000 in
theorem c_Law_near_bad (l : Launch) (hlt : l.stackTraces = false) (dC : Nat → ClassId) (dI : Nat → Nat → Nat) (sz : Nat) (oN oI oT oW oR oP oM oE : Nat) (aI ni aT nt : Nat) (q : Int32) (hni : ni ≤ 60) (hb0 : q < 0 ∨ nI 3 < q ∨ ni = 0) (aO : Nat) : Met l y_Law_near w_Law_near ({ frames := 7, cells := 1, slots := 6, locals := 105 }) (nx_Pw [.ref oN, .int q, .ref aO] (dC, dI) nw_cls [] [(oN, .inr (0, [.ref oI, .ref oT, .ref oW, .ref oR, .ref oP, .ref oM, .ref oE])), (oI, .inr (6, [.ref aI, .int (nI ni)])), (oT, .inr (6, [.ref aT, .int (nI nt)]))] sz) (va_Qi (fun (r : Int32) (_ : Unit) => r = nI 1) (nw_B (dC, dI) nw_cls (va_A [(oN, .inr (0, [.ref oI, .ref oT, .ref oW, .ref oR, .ref oP, .ref oM, .ref oE])), (oI, .inr (6, [.ref aI, .int (nI ni)])), (oT, .inr (6, [.ref aT, .int (nI nt)]))] sz) (fun _ : Unit => [(oN, .inr (0, [.ref oT, .ref oI, .ref oW, .ref oR, .ref oP, .ref oM, .ref oE])), (oI, .inr (6, [.ref aI, .int (nI ni)])), (oT, .inr (6, [.ref aT, .int (nI 0)]))])) (va_A [(oN, .inr (0, [.ref oI, .ref oT, .ref oW, .ref oR, .ref oP, .ref oM, .ref oE])), (oI, .inr (6, [.ref aI, .int (nI ni)])), (oT, .inr (6, [.ref aT, .int (nI nt)]))] sz)) 1 6 (va_A [(oN, .inr (0, [.ref oI, .ref oT, .ref oW, .ref oR, .ref oP, .ref oM, .ref oE])), (oI, .inr (6, [.ref aI, .int (nI ni)])), (oT, .inr (6, [.ref aT, .int (nI nt)]))] sz) := by
  refine va_MetW (cc := b_Law_near) (maxL := 4) (ret := (some .int)) (hh := [(0, 9, 12, 13)]) (by decide) rfl ?_
  intro p e s m args below meth cd s₁ B hml hv0
  obtain ⟨rfl, hsz, hP, hK, hD0, hok⟩ := hv0
  have hx := B.exec
  have hb := B.bytes
  have hr := B.returns
  have hts := atoms_spec (ws := w_Law_near) B.pre
  have hown : s.vm.findClass R_Law = some m.cls := findClass_of_methodNamed B.named
  have hlocks := B.notSynchronized
  subst hsz
  have hD := hD0.self (sz := s.heap.size)
  generalize hAe : va_A [(oN, .inr (0, [.ref oI, .ref oT, .ref oW, .ref oR, .ref oP, .ref oM, .ref oE])), (oI, .inr (6, [.ref aI, .int (nI ni)])), (oT, .inr (6, [.ref aT, .int (nI nt)]))] s.heap.size = A at hD hok ⊢
  have hA : ∀ q : Nat, s.heap.size ≤ q → A q := fun q h => by rw [← hAe]; exact Or.inr h
  have hS : va_S A s.heap s.heap [] := va_S.rf
  have hl := lv_entry ([.ref oN, .int q, .ref aO]) (n := 4) (Nat.le_of_ble_eq_true rfl)
  rw [lg_entry_eq]
  generalize (lg_sl ([.ref oN, .int q, .ref aO]) ++ List.replicate (4 - (lg_sl ([.ref oN, .int q, .ref aO])).length) Slot.unset).toArray = ls at hl ⊢
  have hl : lv_has ls 4 [(0, .ref oN), (1, .int q), (2, .ref aO)] := hl
  obtain ⟨m9, meth9, c9, hn9, hm9, hc9, -, -, htab, -⟩ := Cond.codeWith_spec (hts _ List.mem_cons_self)
  cases B.named.symm.trans hn9
  cases B.method.symm.trans hm9
  cases (Stand.of_body B).code.symm.trans hc9
  refine lv_aload_n hx hb d_Law_near_0 rfl (lv_at hl 2 rfl) ?_
  refine lv_iconst (v := nI 0) hx hb d_Law_near_1 (by decide) ?_
  refine lv_aload_n hx hb d_Law_near_2 rfl (lv_at hl 0 rfl) ?_
  refine lv_iload_n hx hb d_Law_near_3 rfl (lv_at hl 1 rfl) ?_
  have hokH := hok.kept hS.2.1
  have hFc := va_free (wc := [(oN, .inr (0, [.ref oI, .ref oT, .ref oW, .ref oR, .ref oP, .ref oM, .ref oE])), (oI, .inr (6, [.ref aI, .int (nI ni)])), (oT, .inr (6, [.ref aT, .int (nI nt)]))]) hD hS hA [0, 1, 2] rfl
  refine nx_catchA hx hb (hml.trans hl.1.symm) hown hokH (cwV (C := R_NW) 1 hts (nw_GV (nw_m 344 rfl) (nw_m 345 rfl) (nw_m 346 rfl) (nw_m 43 rfl) (nw_m 347 rfl)) rfl rfl rfl (by decide +kernel) ⟨Nat.le_of_ble_eq_true rfl, Nat.le_of_ble_eq_true rfl⟩) (c_NW_near_bad l hlt dC dI _ oN oI oT oW oR oP oM oE aI ni aT nt q hni hb0) (As := [.int q]) (rest := [.int (nI 0), .ref aO]) (nx_prewV (H0 := s.heap) (locs := []) (q0 := 0) (ci := 0) (q := (R_NW, F_NW, 7)) hokH hFc hK hP hD [0, 1, 2] [] (by decide) rfl rfl rfl rfl) rfl rfl (Nat.le_of_ble_eq_true rfl) d_Law_near_4 ⟨Nat.le_of_ble_eq_true rfl, Nat.le_of_ble_eq_true rfl⟩ hS hFc htab (by decide) (by decide) (by decide) (hts _ (nw_mc 434 rfl)) (fun q9 H locs hP hD hS => ?_)
  replace hP : va_P (dC, dI) nw_cls [(oN, .inr (0, [.ref oT, .ref oI, .ref oW, .ref oR, .ref oP, .ref oM, .ref oE])), (oI, .inr (6, [.ref aI, .int (nI ni)])), (oT, .inr (6, [.ref aT, .int (nI 0)]))] H := hP
  replace hD : va_D A [(oN, .inr (0, [.ref oT, .ref oI, .ref oW, .ref oR, .ref oP, .ref oM, .ref oE])), (oI, .inr (6, [.ref aI, .int (nI ni)])), (oT, .inr (6, [.ref aT, .int (nI 0)]))] := hD
  refine lv_astore_n hx hb d_Law_near_12 rfl hl (by decide) rfl (fun ls hl => ?_)
  replace hl : lv_has ls 4 [(3, .ref q9), (0, .ref oN), (1, .int q), (2, .ref aO)] := hl
  refine lv_iconst (v := nI 1) hx hb d_Law_near_13 (by decide) ?_
  exact W.iret (v := nI 1) hx hb hr (fun t ht hW => ⟨⟨_, (), rfl, rfl, by rw [ht]; exact hP, hD⟩, hS.F ht⟩) hS.2.2 d_Law_near_14

set_option maxHeartbeats 4000000 in
set_option maxRecDepth 100000 in
theorem c_Law_letter (l : Launch) (dC : Nat → ClassId) (dI : Nat → Nat → Nat) (sz : Nat) (cJ : ClassId) (cB cF cI : ClassId) (oN oI oT oW oR oP oM oE : Nat) (aC aL aS rn : Nat) (RL rz : Nat → Nat) (M : Nat → Nat → Nat) (pl : va_W) (j k : Nat) (hj : j < rn) (hk : k < 2 ^ 31) (hrn : rn ≤ 50) (hRL : RL j ≤ 60) (aO : Nat) (o : Nat → Nat) (hM9 : k < RL j → M j k < 2 ^ 31) : Met l y_Law_letter w_Law_letter ({ frames := 2, cells := 0, slots := 0, locals := 44 }) (nw_Pw [.ref oN, .int (nI j), .int (nI k), .ref aO] (dC, dI) nw_cls [(cB, .byte), (cF, (.array .byte)), (cI, .int), (cJ, .long)] ([(oN, .inr (0, [.ref oI, .ref oT, .ref oW, .ref oR, .ref oP, .ref oM, .ref oE])), (oR, .inr (5, [.ref aC, .ref aL, .ref aS, .int (nI rn)])), (aC, nw_ar cF 50 (fun k => some (rz k))), (aL, nw_ai cI 50 RL), (aO, nw_al cJ 1 o)] ++ (nw_rb 50 cB 60 rz M ++ pl)) sz) (va_Qi (fun (r : Int32) (_ : Unit) => r = nI 0) (nw_B (dC, dI) nw_cls (va_A ([(oN, .inr (0, [.ref oI, .ref oT, .ref oW, .ref oR, .ref oP, .ref oM, .ref oE])), (oR, .inr (5, [.ref aC, .ref aL, .ref aS, .int (nI rn)])), (aC, nw_ar cF 50 (fun k => some (rz k))), (aL, nw_ai cI 50 RL), (aO, nw_al cJ 1 o)] ++ (nw_rb 50 cB 60 rz M ++ pl)) sz) (fun _ : Unit => ([(oN, .inr (0, [.ref oI, .ref oT, .ref oW, .ref oR, .ref oP, .ref oM, .ref oE])), (oR, .inr (5, [.ref aC, .ref aL, .ref aS, .int (nI rn)])), (aC, nw_ar cF 50 (fun k => some (rz k))), (aL, nw_ai cI 50 RL), (aO, nw_al cJ 1 (va_up o 0 (if k < RL j then M j k else 0)))] ++ (nw_rb 50 cB 60 rz M ++ pl)))) (va_A ([(oN, .inr (0, [.ref oI, .ref oT, .ref oW, .ref oR, .ref oP, .ref oM, .ref oE])), (oR, .inr (5, [.ref aC, .ref aL, .ref aS, .int (nI rn)])), (aC, nw_ar cF 50 (fun k => some (rz k))), (aL, nw_ai cI 50 RL), (aO, nw_al cJ 1 o)] ++ (nw_rb 50 cB 60 rz M ++ pl)) sz)) 0 0 (va_A ([(oN, .inr (0, [.ref oI, .ref oT, .ref oW, .ref oR, .ref oP, .ref oM, .ref oE])), (oR, .inr (5, [.ref aC, .ref aL, .ref aS, .int (nI rn)])), (aC, nw_ar cF 50 (fun k => some (rz k))), (aL, nw_ai cI 50 RL), (aO, nw_al cJ 1 o)] ++ (nw_rb 50 cB 60 rz M ++ pl)) sz) := by
  refine va_MetW (cc := b_Law_letter) (maxL := 5) (ret := (some .int)) (hh := [(0, 10, 13, 13)]) (by decide) rfl ?_
  intro p e s m args below meth cd s₁ B hml hv0
  obtain ⟨rfl, hsz, hP, hK, hD0⟩ := hv0
  have hx := B.exec
  have hb := B.bytes
  have hr := B.returns
  have hts := atoms_spec (ws := w_Law_letter) B.pre
  have hown : s.vm.findClass R_Law = some m.cls := findClass_of_methodNamed B.named
  have hlocks := B.notSynchronized
  subst hsz
  have hD := hD0.self (sz := s.heap.size)
  generalize hAe : va_A ([(oN, .inr (0, [.ref oI, .ref oT, .ref oW, .ref oR, .ref oP, .ref oM, .ref oE])), (oR, .inr (5, [.ref aC, .ref aL, .ref aS, .int (nI rn)])), (aC, nw_ar cF 50 (fun k => some (rz k))), (aL, nw_ai cI 50 RL), (aO, nw_al cJ 1 o)] ++ (nw_rb 50 cB 60 rz M ++ pl)) s.heap.size = A at hD ⊢
  have hA : ∀ q : Nat, s.heap.size ≤ q → A q := fun q h => by rw [← hAe]; exact Or.inr h
  have hS : va_S A s.heap s.heap [] := va_S.rf
  have hl := lv_entry ([.ref oN, .int (nI j), .int (nI k), .ref aO]) (n := 5) (Nat.le_of_ble_eq_true rfl)
  rw [lg_entry_eq]
  generalize (lg_sl ([.ref oN, .int (nI j), .int (nI k), .ref aO]) ++ List.replicate (5 - (lg_sl ([.ref oN, .int (nI j), .int (nI k), .ref aO])).length) Slot.unset).toArray = ls at hl ⊢
  have hl : lv_has ls 5 [(0, .ref oN), (1, .int (nI j)), (2, .int (nI k)), (3, .ref aO)] := hl
  refine lv_aload_n hx hb d_Law_letter_0 rfl (lv_at hl 3 rfl) ?_
  refine lv_iconst (v := nI 0) hx hb d_Law_letter_1 (by decide) ?_
  refine lv_aload_n hx hb d_Law_letter_2 rfl (lv_at hl 0 rfl) ?_
  refine lv_iload_n hx hb d_Law_letter_3 rfl (lv_at hl 1 rfl) ?_
  refine lv_iload_n hx hb d_Law_letter_4 rfl (lv_at hl 2 rfl) ?_
  refine vp_callSi (va_Run.run (va_runV (As := [.int (nI j), .int (nI k)]) (rest := [.int (nI 0), .ref aO]) ⟨hx, hb, hml, hown, hts⟩ (c_NW_letter l dC dI cB cF cI oN oI oT oW oR oP oM oE aC aL aS rn RL rz M pl j k hj hk hrn hRL) (cwV (C := R_NW) 2 hts (nw_GV (nw_m 348 rfl) (nw_m 349 rfl) (nw_m 350 rfl) (nw_m 43 rfl) (nw_m 351 rfl)) rfl rfl rfl (by decide +kernel) ⟨Nat.le_of_ble_eq_true rfl, Nat.le_of_ble_eq_true rfl⟩) (nw_preVP (q0 := 0) (ci := 0) (q := (R_NW, F_NW, 7)) hK hP [0, 1, 2, 3] [0, 1, 2] rfl rfl rfl rfl) rfl rfl hl.1 rfl (lv_room (Nat.le_of_ble_eq_true rfl)) d_Law_letter_5 ⟨Nat.le_of_ble_eq_true rfl, Nat.le_of_ble_eq_true rfl⟩)) (fun r her => ?_)
  subst her
  have hb9 : (if k < RL j then M j k else 0) < 2 ^ 31 := by
    split
    · rename_i h; exact hM9 h
    · decide
  refine lv_i2l (v := lN (if k < RL j then M j k else 0)) hx hb d_Law_letter_8 (nI_l (by omega)) ?_
  refine nw_last hx hb hK hP hD hS 4 3 rfl rfl (k := 0) (v := (if k < RL j then M j k else 0)) (by omega) (by first | decide | omega) d_Law_letter_9 (fun H locs hP hD hS => ?_)
  replace hP : va_P (dC, dI) nw_cls ([(oN, .inr (0, [.ref oI, .ref oT, .ref oW, .ref oR, .ref oP, .ref oM, .ref oE])), (oR, .inr (5, [.ref aC, .ref aL, .ref aS, .int (nI rn)])), (aC, nw_ar cF 50 (fun k => some (rz k))), (aL, nw_ai cI 50 RL), (aO, nw_al cJ 1 (va_up o 0 (if k < RL j then M j k else 0)))] ++ (nw_rb 50 cB 60 rz M ++ pl)) H := hP
  replace hD : va_D A ([(oN, .inr (0, [.ref oI, .ref oT, .ref oW, .ref oR, .ref oP, .ref oM, .ref oE])), (oR, .inr (5, [.ref aC, .ref aL, .ref aS, .int (nI rn)])), (aC, nw_ar cF 50 (fun k => some (rz k))), (aL, nw_ai cI 50 RL), (aO, nw_al cJ 1 (va_up o 0 (if k < RL j then M j k else 0)))] ++ (nw_rb 50 cB 60 rz M ++ pl)) := hD
  refine lv_goto hx hb d_Law_letter_10 (tgt := 17) (by decide) ?_
  refine lv_iconst (v := nI 0) hx hb d_Law_letter_17 (by decide) ?_
  exact W.iret (v := nI 0) hx hb hr (fun t ht hW => ⟨⟨_, (), rfl, rfl, by rw [ht]; exact hP, hD⟩, hS.F ht⟩) hS.2.2 d_Law_letter_18

set_option maxHeartbeats 4000000 in
set_option maxRecDepth 100000 in
theorem c_Law_letter_bad (l : Launch) (hlt : l.stackTraces = false) (dC : Nat → ClassId) (dI : Nat → Nat → Nat) (sz : Nat) (oN oI oT oW oR oP oM oE : Nat) (aC aL aS rn : Nat) (q k : Int32) (hb0 : (q < 0 ∨ nI rn ≤ q) ∨ k < 0) (aO : Nat) : Met l y_Law_letter w_Law_letter ({ frames := 7, cells := 1, slots := 6, locals := 103 }) (nx_Pw [.ref oN, .int q, .int k, .ref aO] (dC, dI) nw_cls [] [(oN, .inr (0, [.ref oI, .ref oT, .ref oW, .ref oR, .ref oP, .ref oM, .ref oE])), (oR, .inr (5, [.ref aC, .ref aL, .ref aS, .int (nI rn)]))] sz) (va_Qi (fun (r : Int32) (_ : Unit) => r = nI 1) (nw_B (dC, dI) nw_cls (va_A [(oN, .inr (0, [.ref oI, .ref oT, .ref oW, .ref oR, .ref oP, .ref oM, .ref oE])), (oR, .inr (5, [.ref aC, .ref aL, .ref aS, .int (nI rn)]))] sz) (fun _ : Unit => [(oN, .inr (0, [.ref oI, .ref oT, .ref oW, .ref oR, .ref oP, .ref oM, .ref oE])), (oR, .inr (5, [.ref aC, .ref aL, .ref aS, .int (nI rn)]))])) (va_A [(oN, .inr (0, [.ref oI, .ref oT, .ref oW, .ref oR, .ref oP, .ref oM, .ref oE])), (oR, .inr (5, [.ref aC, .ref aL, .ref aS, .int (nI rn)]))] sz)) 1 6 (va_A [(oN, .inr (0, [.ref oI, .ref oT, .ref oW, .ref oR, .ref oP, .ref oM, .ref oE])), (oR, .inr (5, [.ref aC, .ref aL, .ref aS, .int (nI rn)]))] sz) := by
  refine va_MetW (cc := b_Law_letter) (maxL := 5) (ret := (some .int)) (hh := [(0, 10, 13, 13)]) (by decide) rfl ?_
  intro p e s m args below meth cd s₁ B hml hv0
  obtain ⟨rfl, hsz, hP, hK, hD0, hok⟩ := hv0
  have hx := B.exec
  have hb := B.bytes
  have hr := B.returns
  have hts := atoms_spec (ws := w_Law_letter) B.pre
  have hown : s.vm.findClass R_Law = some m.cls := findClass_of_methodNamed B.named
  have hlocks := B.notSynchronized
  subst hsz
  have hD := hD0.self (sz := s.heap.size)
  generalize hAe : va_A [(oN, .inr (0, [.ref oI, .ref oT, .ref oW, .ref oR, .ref oP, .ref oM, .ref oE])), (oR, .inr (5, [.ref aC, .ref aL, .ref aS, .int (nI rn)]))] s.heap.size = A at hD hok ⊢
  have hA : ∀ q : Nat, s.heap.size ≤ q → A q := fun q h => by rw [← hAe]; exact Or.inr h
  have hS : va_S A s.heap s.heap [] := va_S.rf
  have hl := lv_entry ([.ref oN, .int q, .int k, .ref aO]) (n := 5) (Nat.le_of_ble_eq_true rfl)
  rw [lg_entry_eq]
  generalize (lg_sl ([.ref oN, .int q, .int k, .ref aO]) ++ List.replicate (5 - (lg_sl ([.ref oN, .int q, .int k, .ref aO])).length) Slot.unset).toArray = ls at hl ⊢
  have hl : lv_has ls 5 [(0, .ref oN), (1, .int q), (2, .int k), (3, .ref aO)] := hl
  obtain ⟨m9, meth9, c9, hn9, hm9, hc9, -, -, htab, -⟩ := Cond.codeWith_spec (hts _ List.mem_cons_self)
  cases B.named.symm.trans hn9
  cases B.method.symm.trans hm9
  cases (Stand.of_body B).code.symm.trans hc9
  refine lv_aload_n hx hb d_Law_letter_0 rfl (lv_at hl 3 rfl) ?_
  refine lv_iconst (v := nI 0) hx hb d_Law_letter_1 (by decide) ?_
  refine lv_aload_n hx hb d_Law_letter_2 rfl (lv_at hl 0 rfl) ?_
  refine lv_iload_n hx hb d_Law_letter_3 rfl (lv_at hl 1 rfl) ?_
  refine lv_iload_n hx hb d_Law_letter_4 rfl (lv_at hl 2 rfl) ?_
  have hokH := hok.kept hS.2.1
  have hFc := va_free (wc := [(oN, .inr (0, [.ref oI, .ref oT, .ref oW, .ref oR, .ref oP, .ref oM, .ref oE])), (oR, .inr (5, [.ref aC, .ref aL, .ref aS, .int (nI rn)]))]) hD hS hA [0, 1] rfl
  refine nx_catchA hx hb (hml.trans hl.1.symm) hown hokH (cwV (C := R_NW) 2 hts (nw_GV (nw_m 348 rfl) (nw_m 349 rfl) (nw_m 350 rfl) (nw_m 43 rfl) (nw_m 351 rfl)) rfl rfl rfl (by decide +kernel) ⟨Nat.le_of_ble_eq_true rfl, Nat.le_of_ble_eq_true rfl⟩) (c_NW_letter_bad l hlt dC dI _ oN oI oT oW oR oP oM oE aC aL aS rn q k hb0) (As := [.int q, .int k]) (rest := [.int (nI 0), .ref aO]) (nx_prewV (H0 := s.heap) (locs := []) (q0 := 0) (ci := 0) (q := (R_NW, F_NW, 7)) hokH hFc hK hP hD [0, 1] [] (by decide) rfl rfl rfl rfl) rfl rfl (Nat.le_of_ble_eq_true rfl) d_Law_letter_5 ⟨Nat.le_of_ble_eq_true rfl, Nat.le_of_ble_eq_true rfl⟩ hS hFc htab (by decide) (by decide) (by decide) (hts _ (nw_mc 434 rfl)) (fun q9 H locs hP hD hS => ?_)
  replace hP : va_P (dC, dI) nw_cls [(oN, .inr (0, [.ref oI, .ref oT, .ref oW, .ref oR, .ref oP, .ref oM, .ref oE])), (oR, .inr (5, [.ref aC, .ref aL, .ref aS, .int (nI rn)]))] H := hP
  replace hD : va_D A [(oN, .inr (0, [.ref oI, .ref oT, .ref oW, .ref oR, .ref oP, .ref oM, .ref oE])), (oR, .inr (5, [.ref aC, .ref aL, .ref aS, .int (nI rn)]))] := hD
  refine lv_astore hx hb d_Law_letter_13 hl (by decide) rfl (fun ls hl => ?_)
  replace hl : lv_has ls 5 [(4, .ref q9), (0, .ref oN), (1, .int q), (2, .int k), (3, .ref aO)] := hl
  refine lv_iconst (v := nI 1) hx hb d_Law_letter_15 (by decide) ?_
  exact W.iret (v := nI 1) hx hb hr (fun t ht hW => ⟨⟨_, (), rfl, rfl, by rw [ht]; exact hP, hD⟩, hS.F ht⟩) hS.2.2 d_Law_letter_16

set_option maxHeartbeats 4000000 in
set_option maxRecDepth 100000 in
theorem c_Law_distance (l : Launch) (dC : Nat → ClassId) (dI : Nat → Nat → Nat) (sz : Nat) (cJ : ClassId) (cI : ClassId) (oN oI oT oW oR oP oM oE : Nat) (aC aL aS rn : Nat) (RD : Nat → Nat) (j : Nat) (hj : j < rn) (hrn : rn ≤ 50) (aO : Nat) (o : Nat → Nat) (hD9 : RD j < 2 ^ 31) : Met l y_Law_distance w_Law_distance ({ frames := 2, cells := 0, slots := 0, locals := 42 }) (nw_Pw [.ref oN, .int (nI j), .ref aO] (dC, dI) nw_cls [(cI, .int), (cJ, .long)] [(oN, .inr (0, [.ref oI, .ref oT, .ref oW, .ref oR, .ref oP, .ref oM, .ref oE])), (oR, .inr (5, [.ref aC, .ref aL, .ref aS, .int (nI rn)])), (aS, nw_ai cI 50 RD), (aO, nw_al cJ 1 o)] sz) (va_Qi (fun (r : Int32) (_ : Unit) => r = nI 0) (nw_B (dC, dI) nw_cls (va_A [(oN, .inr (0, [.ref oI, .ref oT, .ref oW, .ref oR, .ref oP, .ref oM, .ref oE])), (oR, .inr (5, [.ref aC, .ref aL, .ref aS, .int (nI rn)])), (aS, nw_ai cI 50 RD), (aO, nw_al cJ 1 o)] sz) (fun _ : Unit => [(oN, .inr (0, [.ref oI, .ref oT, .ref oW, .ref oR, .ref oP, .ref oM, .ref oE])), (oR, .inr (5, [.ref aC, .ref aL, .ref aS, .int (nI rn)])), (aS, nw_ai cI 50 RD), (aO, nw_al cJ 1 (va_up o 0 (RD j)))])) (va_A [(oN, .inr (0, [.ref oI, .ref oT, .ref oW, .ref oR, .ref oP, .ref oM, .ref oE])), (oR, .inr (5, [.ref aC, .ref aL, .ref aS, .int (nI rn)])), (aS, nw_ai cI 50 RD), (aO, nw_al cJ 1 o)] sz)) 0 0 (va_A [(oN, .inr (0, [.ref oI, .ref oT, .ref oW, .ref oR, .ref oP, .ref oM, .ref oE])), (oR, .inr (5, [.ref aC, .ref aL, .ref aS, .int (nI rn)])), (aS, nw_ai cI 50 RD), (aO, nw_al cJ 1 o)] sz) := by
  refine va_MetW (cc := b_Law_distance) (maxL := 4) (ret := (some .int)) (hh := [(0, 9, 12, 13)]) (by decide) rfl ?_
  intro p e s m args below meth cd s₁ B hml hv0
  obtain ⟨rfl, hsz, hP, hK, hD0⟩ := hv0
  have hx := B.exec
  have hb := B.bytes
  have hr := B.returns
  have hts := atoms_spec (ws := w_Law_distance) B.pre
  have hown : s.vm.findClass R_Law = some m.cls := findClass_of_methodNamed B.named
  have hlocks := B.notSynchronized
  subst hsz
  have hD := hD0.self (sz := s.heap.size)
  generalize hAe : va_A [(oN, .inr (0, [.ref oI, .ref oT, .ref oW, .ref oR, .ref oP, .ref oM, .ref oE])), (oR, .inr (5, [.ref aC, .ref aL, .ref aS, .int (nI rn)])), (aS, nw_ai cI 50 RD), (aO, nw_al cJ 1 o)] s.heap.size = A at hD ⊢
  have hA : ∀ q : Nat, s.heap.size ≤ q → A q := fun q h => by rw [← hAe]; exact Or.inr h
  have hS : va_S A s.heap s.heap [] := va_S.rf
  have hl := lv_entry ([.ref oN, .int (nI j), .ref aO]) (n := 4) (Nat.le_of_ble_eq_true rfl)
  rw [lg_entry_eq]
  generalize (lg_sl ([.ref oN, .int (nI j), .ref aO]) ++ List.replicate (4 - (lg_sl ([.ref oN, .int (nI j), .ref aO])).length) Slot.unset).toArray = ls at hl ⊢
  have hl : lv_has ls 4 [(0, .ref oN), (1, .int (nI j)), (2, .ref aO)] := hl
  refine lv_aload_n hx hb d_Law_distance_0 rfl (lv_at hl 2 rfl) ?_
  refine lv_iconst (v := nI 0) hx hb d_Law_distance_1 (by decide) ?_
  refine lv_aload_n hx hb d_Law_distance_2 rfl (lv_at hl 0 rfl) ?_
  refine lv_iload_n hx hb d_Law_distance_3 rfl (lv_at hl 1 rfl) ?_
  refine vp_callSi (va_Run.run (va_runV (As := [.int (nI j)]) (rest := [.int (nI 0), .ref aO]) ⟨hx, hb, hml, hown, hts⟩ (c_NW_distance l dC dI cI oN oI oT oW oR oP oM oE aC aL aS rn RD j hj hrn) (cwV (C := R_NW) 1 hts (nw_GV (nw_m 352 rfl) (nw_m 353 rfl) (nw_m 354 rfl) (nw_m 43 rfl) (nw_m 355 rfl)) rfl rfl rfl (by decide +kernel) ⟨Nat.le_of_ble_eq_true rfl, Nat.le_of_ble_eq_true rfl⟩) (nw_preV (q0 := 0) (ci := 0) (q := (R_NW, F_NW, 7)) hK hP [0, 1, 2] [0] rfl rfl rfl rfl) rfl rfl hl.1 rfl (lv_room (Nat.le_of_ble_eq_true rfl)) d_Law_distance_4 ⟨Nat.le_of_ble_eq_true rfl, Nat.le_of_ble_eq_true rfl⟩)) (fun r her => ?_)
  subst her
  have hb9 := hD9
  refine lv_i2l (v := lN (RD j)) hx hb d_Law_distance_7 (nI_l (by omega)) ?_
  refine nw_last hx hb hK hP hD hS 3 1 rfl rfl (k := 0) (v := (RD j)) (by omega) (by first | decide | omega) d_Law_distance_8 (fun H locs hP hD hS => ?_)
  replace hP : va_P (dC, dI) nw_cls [(oN, .inr (0, [.ref oI, .ref oT, .ref oW, .ref oR, .ref oP, .ref oM, .ref oE])), (oR, .inr (5, [.ref aC, .ref aL, .ref aS, .int (nI rn)])), (aS, nw_ai cI 50 RD), (aO, nw_al cJ 1 (va_up o 0 (RD j)))] H := hP
  replace hD : va_D A [(oN, .inr (0, [.ref oI, .ref oT, .ref oW, .ref oR, .ref oP, .ref oM, .ref oE])), (oR, .inr (5, [.ref aC, .ref aL, .ref aS, .int (nI rn)])), (aS, nw_ai cI 50 RD), (aO, nw_al cJ 1 (va_up o 0 (RD j)))] := hD
  refine lv_goto hx hb d_Law_distance_9 (tgt := 15) (by decide) ?_
  refine lv_iconst (v := nI 0) hx hb d_Law_distance_15 (by decide) ?_
  exact W.iret (v := nI 0) hx hb hr (fun t ht hW => ⟨⟨_, (), rfl, rfl, by rw [ht]; exact hP, hD⟩, hS.F ht⟩) hS.2.2 d_Law_distance_16

set_option maxHeartbeats 4000000 in
set_option maxRecDepth 100000 in
theorem c_Law_distance_bad (l : Launch) (hlt : l.stackTraces = false) (dC : Nat → ClassId) (dI : Nat → Nat → Nat) (sz : Nat) (oN oI oT oW oR oP oM oE : Nat) (aC aL aS rn : Nat) (q : Int32) (hb0 : q < 0 ∨ nI rn ≤ q) (aO : Nat) : Met l y_Law_distance w_Law_distance ({ frames := 7, cells := 1, slots := 6, locals := 102 }) (nx_Pw [.ref oN, .int q, .ref aO] (dC, dI) nw_cls [] [(oN, .inr (0, [.ref oI, .ref oT, .ref oW, .ref oR, .ref oP, .ref oM, .ref oE])), (oR, .inr (5, [.ref aC, .ref aL, .ref aS, .int (nI rn)]))] sz) (va_Qi (fun (r : Int32) (_ : Unit) => r = nI 1) (nw_B (dC, dI) nw_cls (va_A [(oN, .inr (0, [.ref oI, .ref oT, .ref oW, .ref oR, .ref oP, .ref oM, .ref oE])), (oR, .inr (5, [.ref aC, .ref aL, .ref aS, .int (nI rn)]))] sz) (fun _ : Unit => [(oN, .inr (0, [.ref oI, .ref oT, .ref oW, .ref oR, .ref oP, .ref oM, .ref oE])), (oR, .inr (5, [.ref aC, .ref aL, .ref aS, .int (nI rn)]))])) (va_A [(oN, .inr (0, [.ref oI, .ref oT, .ref oW, .ref oR, .ref oP, .ref oM, .ref oE])), (oR, .inr (5, [.ref aC, .ref aL, .ref aS, .int (nI rn)]))] sz)) 1 6 (va_A [(oN, .inr (0, [.ref oI, .ref oT, .ref oW, .ref oR, .ref oP, .ref oM, .ref oE])), (oR, .inr (5, [.ref aC, .ref aL, .ref aS, .int (nI rn)]))] sz) := by
  refine va_MetW (cc := b_Law_distance) (maxL := 4) (ret := (some .int)) (hh := [(0, 9, 12, 13)]) (by decide) rfl ?_
  intro p e s m args below meth cd s₁ B hml hv0
  obtain ⟨rfl, hsz, hP, hK, hD0, hok⟩ := hv0
  have hx := B.exec
  have hb := B.bytes
  have hr := B.returns
  have hts := atoms_spec (ws := w_Law_distance) B.pre
  have hown : s.vm.findClass R_Law = some m.cls := findClass_of_methodNamed B.named
  have hlocks := B.notSynchronized
  subst hsz
  have hD := hD0.self (sz := s.heap.size)
  generalize hAe : va_A [(oN, .inr (0, [.ref oI, .ref oT, .ref oW, .ref oR, .ref oP, .ref oM, .ref oE])), (oR, .inr (5, [.ref aC, .ref aL, .ref aS, .int (nI rn)]))] s.heap.size = A at hD hok ⊢
  have hA : ∀ q : Nat, s.heap.size ≤ q → A q := fun q h => by rw [← hAe]; exact Or.inr h
  have hS : va_S A s.heap s.heap [] := va_S.rf
  have hl := lv_entry ([.ref oN, .int q, .ref aO]) (n := 4) (Nat.le_of_ble_eq_true rfl)
  rw [lg_entry_eq]
  generalize (lg_sl ([.ref oN, .int q, .ref aO]) ++ List.replicate (4 - (lg_sl ([.ref oN, .int q, .ref aO])).length) Slot.unset).toArray = ls at hl ⊢
  have hl : lv_has ls 4 [(0, .ref oN), (1, .int q), (2, .ref aO)] := hl
  obtain ⟨m9, meth9, c9, hn9, hm9, hc9, -, -, htab, -⟩ := Cond.codeWith_spec (hts _ List.mem_cons_self)
  cases B.named.symm.trans hn9
  cases B.method.symm.trans hm9
  cases (Stand.of_body B).code.symm.trans hc9
  refine lv_aload_n hx hb d_Law_distance_0 rfl (lv_at hl 2 rfl) ?_
  refine lv_iconst (v := nI 0) hx hb d_Law_distance_1 (by decide) ?_
  refine lv_aload_n hx hb d_Law_distance_2 rfl (lv_at hl 0 rfl) ?_
  refine lv_iload_n hx hb d_Law_distance_3 rfl (lv_at hl 1 rfl) ?_
  have hokH := hok.kept hS.2.1
  have hFc := va_free (wc := [(oN, .inr (0, [.ref oI, .ref oT, .ref oW, .ref oR, .ref oP, .ref oM, .ref oE])), (oR, .inr (5, [.ref aC, .ref aL, .ref aS, .int (nI rn)]))]) hD hS hA [0, 1] rfl
  refine nx_catchA hx hb (hml.trans hl.1.symm) hown hokH (cwV (C := R_NW) 1 hts (nw_GV (nw_m 352 rfl) (nw_m 353 rfl) (nw_m 354 rfl) (nw_m 43 rfl) (nw_m 355 rfl)) rfl rfl rfl (by decide +kernel) ⟨Nat.le_of_ble_eq_true rfl, Nat.le_of_ble_eq_true rfl⟩) (c_NW_distance_bad l hlt dC dI _ oN oI oT oW oR oP oM oE aC aL aS rn q hb0) (As := [.int q]) (rest := [.int (nI 0), .ref aO]) (nx_prewV (H0 := s.heap) (locs := []) (q0 := 0) (ci := 0) (q := (R_NW, F_NW, 7)) hokH hFc hK hP hD [0, 1] [] (by decide) rfl rfl rfl rfl) rfl rfl (Nat.le_of_ble_eq_true rfl) d_Law_distance_4 ⟨Nat.le_of_ble_eq_true rfl, Nat.le_of_ble_eq_true rfl⟩ hS hFc htab (by decide) (by decide) (by decide) (hts _ (nw_mc 434 rfl)) (fun q9 H locs hP hD hS => ?_)
  replace hP : va_P (dC, dI) nw_cls [(oN, .inr (0, [.ref oI, .ref oT, .ref oW, .ref oR, .ref oP, .ref oM, .ref oE])), (oR, .inr (5, [.ref aC, .ref aL, .ref aS, .int (nI rn)]))] H := hP
  replace hD : va_D A [(oN, .inr (0, [.ref oI, .ref oT, .ref oW, .ref oR, .ref oP, .ref oM, .ref oE])), (oR, .inr (5, [.ref aC, .ref aL, .ref aS, .int (nI rn)]))] := hD
  refine lv_astore_n hx hb d_Law_distance_12 rfl hl (by decide) rfl (fun ls hl => ?_)
  replace hl : lv_has ls 4 [(3, .ref q9), (0, .ref oN), (1, .int q), (2, .ref aO)] := hl
  refine lv_iconst (v := nI 1) hx hb d_Law_distance_13 (by decide) ?_
  exact W.iret (v := nI 1) hx hb hr (fun t ht hW => ⟨⟨_, (), rfl, rfl, by rw [ht]; exact hP, hD⟩, hS.F ht⟩) hS.2.2 d_Law_distance_14
