set_option maxHeartbeats 4000000 in
set_option maxRecDepth 100000 in
theorem c_NW_type_ok (l : Launch) (dC : Nat → ClassId) (dI : Nat → Nat → Nat) (sz : Nat) (cB : ClassId) (oN oI oT oW oR oP oM oE : Nat) (aI ni : Nat) (ci : Nat → Nat) (x1 x2 : Int64) (hy1 : ∀ k, k < 8 → ¬ nw_bad (nw_bk x1 k)) (hy2 : ∀ k, k < 8 → ¬ nw_bad (nw_bk x2 k)) (hroom : ni + nw_cnt (fun j => nw_bk x1 j ≠ 0) 8 + nw_cnt (fun j => nw_bk x2 j ≠ 0) 8 ≤ 60) (hci : ∀ j, ci j < 127) : Met l y_NW_type w_NW_type ({ frames := 2, cells := 0, slots := 0, locals := 46 }) (nw_Pw [.ref oN, .long x1, .long x2] (dC, dI) nw_cls [(cB, .byte)] [(oN, .inr (0, [.ref oI, .ref oT, .ref oW, .ref oR, .ref oP, .ref oM, .ref oE])), (oI, .inr (6, [.ref aI, .int (nI ni)])), (aI, nw_ai cB 60 ci)] sz) (va_Qi (fun (r : Int32) (u : Nat → Nat) => r = nI (ni + nw_cnt (fun j => nw_bk x1 j ≠ 0) 8 + nw_cnt (fun j => nw_bk x2 j ≠ 0) 8) ∧ (∀ j, j < ni → u j = ci j) ∧ (∀ i, i < 8 → nw_bk x1 i ≠ 0 → u (ni + nw_cnt (fun j => nw_bk x1 j ≠ 0) i) = nw_bk x1 i) ∧ (∀ i, i < 8 → nw_bk x2 i ≠ 0 → u (ni + nw_cnt (fun j => nw_bk x1 j ≠ 0) 8 + nw_cnt (fun j => nw_bk x2 j ≠ 0) i) = nw_bk x2 i) ∧ ∀ j, u j < 127) (nw_B (dC, dI) nw_cls (va_A [(oN, .inr (0, [.ref oI, .ref oT, .ref oW, .ref oR, .ref oP, .ref oM, .ref oE])), (oI, .inr (6, [.ref aI, .int (nI ni)])), (aI, nw_ai cB 60 ci)] sz) (fun u => [(oN, .inr (0, [.ref oI, .ref oT, .ref oW, .ref oR, .ref oP, .ref oM, .ref oE])), (oI, .inr (6, [.ref aI, .int (nI ((ni + nw_cnt (fun j => nw_bk x1 j ≠ 0) 8) + nw_cnt (fun j => nw_bk x2 j ≠ 0) 8))])), (aI, nw_ai cB 60 u)])) (va_A [(oN, .inr (0, [.ref oI, .ref oT, .ref oW, .ref oR, .ref oP, .ref oM, .ref oE])), (oI, .inr (6, [.ref aI, .int (nI ni)])), (aI, nw_ai cB 60 ci)] sz)) 0 0 (va_A [(oN, .inr (0, [.ref oI, .ref oT, .ref oW, .ref oR, .ref oP, .ref oM, .ref oE])), (oI, .inr (6, [.ref aI, .int (nI ni)])), (aI, nw_ai cB 60 ci)] sz) := by
  refine Met.ofW (cc := b_NW_type) (maxL := 5) (ret := (some .int)) (by decide) rfl ?_
  intro p e s m args below meth cd s₁ B hml hv0
  obtain ⟨rfl, hsz, hP, hK, hD0⟩ := hv0
  have hx := B.exec
  have hb := B.bytes
  have hr := B.returns
  have hts := atoms_spec (ws := w_NW_type) B.pre
  have hown : s.vm.findClass R_NW = some m.cls := findClass_of_methodNamed B.named
  have hlocks := B.notSynchronized
  subst hsz
  have hD := hD0.self (sz := s.heap.size)
  generalize hAe : va_A [(oN, .inr (0, [.ref oI, .ref oT, .ref oW, .ref oR, .ref oP, .ref oM, .ref oE])), (oI, .inr (6, [.ref aI, .int (nI ni)])), (aI, nw_ai cB 60 ci)] s.heap.size = A at hD ⊢
  have hA : ∀ q : Nat, s.heap.size ≤ q → A q := fun q h => by rw [← hAe]; exact Or.inr h
  have hS : va_S A s.heap s.heap [] := va_S.rf
  have hl := lv_entry ([.ref oN, .long x1, .long x2]) (n := 5) (Nat.le_of_ble_eq_true rfl)
  rw [lg_entry_eq]
  generalize (lg_sl ([.ref oN, .long x1, .long x2]) ++ List.replicate (5 - (lg_sl ([.ref oN, .long x1, .long x2])).length) Slot.unset).toArray = ls at hl ⊢
  have hl : lv_has ls 5 [(0, .ref oN), (1, .long x1), (3, .long x2)] := hl
  have hc1 := nw_cnt_le (fun j => nw_bk x1 j ≠ 0) 8
  have hc2 := nw_cnt_le (fun j => nw_bk x2 j ≠ 0) 8
  refine lv_lload_n hx hb d_NW_type_0 rfl (lv_at hl 1 rfl) ?_
  refine vp_callSi (va_Run.run (va_runS (As := [.long x1]) (rest := []) ⟨hx, hb, hml, hown, hts⟩ (c_NW_isT_y l dC dI x1 hy1) (cwS 1 hts (nw_GS (nw_m 41 rfl) (nw_m 42 rfl) (nw_m 43 rfl) (nw_m 44 rfl)) rfl rfl rfl (by decide +kernel) ⟨Nat.le_of_ble_eq_true rfl, Nat.le_of_ble_eq_true rfl⟩) (nw_preS hK hP [] [] rfl rfl) rfl rfl hl.1 rfl (lv_room (Nat.le_of_ble_eq_true rfl)) d_NW_type_1 ⟨Nat.le_of_ble_eq_true rfl, Nat.le_of_ble_eq_true rfl⟩)) (fun r her => ?_)
  subst her
  refine lv_if_eq hx hb d_NW_type_4 (tgt := 14) (by decide) (fun a1 => ?_) (fun a1 => ?_)
  · rw [nw_eq0 (by omega)] at a1
    omega
  · rw [nw_eq0 (by omega)] at a1
    refine lv_lload_n hx hb d_NW_type_7 rfl (lv_at hl 2 rfl) ?_
    refine vp_callSi (va_Run.run (va_runS (As := [.long x2]) (rest := []) ⟨hx, hb, hml, hown, hts⟩ (c_NW_isT_y l dC dI x2 hy2) (cwS 1 hts (nw_GS (nw_m 41 rfl) (nw_m 42 rfl) (nw_m 43 rfl) (nw_m 44 rfl)) rfl rfl rfl (by decide +kernel) ⟨Nat.le_of_ble_eq_true rfl, Nat.le_of_ble_eq_true rfl⟩) (nw_preS hK hP [] [] rfl rfl) rfl rfl hl.1 rfl (lv_room (Nat.le_of_ble_eq_true rfl)) d_NW_type_8 ⟨Nat.le_of_ble_eq_true rfl, Nat.le_of_ble_eq_true rfl⟩)) (fun r her => ?_)
    subst her
    refine lv_if_ne hx hb d_NW_type_11 (tgt := 22) (by decide) (fun a2 => ?_) (fun a2 => ?_)
    · rw [nw_eq0 (by omega)] at a2
      refine lv_aload_n hx hb d_NW_type_22 rfl (lv_at hl 0 rfl) ?_
      refine va_get (D := (dC, dI)) (ci := 0) (v := .ref oI) (C := R_NW) (T := F_NW) (N := 7) hx hb hts hin_NW hown hK hP 0 rfl rfl 0 (by decide) (hts _ (nw_mc 8 rfl)) (fun _ h9 => h9) rfl d_NW_type_23 ?_
      refine vp_callSi (va_Run.run (va_runV (As := []) (rest := []) ⟨hx, hb, hml, hown, hts⟩ (c_Row_length l dC dI oI aI ni) (cwV (C := R_Row) 0 hts (nw_GV (nw_m 47 rfl) (nw_m 48 rfl) (nw_m 49 rfl) (nw_m 5 rfl) (nw_m 50 rfl)) rfl rfl rfl (by decide +kernel) ⟨Nat.le_of_ble_eq_true rfl, Nat.le_of_ble_eq_true rfl⟩) (nw_preV (q0 := 1) (ci := 6) (q := (R_Row, F_Row, 2)) hK hP [1] [] rfl rfl rfl rfl) rfl rfl hl.1 rfl (lv_room (Nat.le_of_ble_eq_true rfl)) d_NW_type_26 ⟨Nat.le_of_ble_eq_true rfl, Nat.le_of_ble_eq_true rfl⟩)) (fun r her => ?_)
      subst her
      refine lv_lload_n hx hb d_NW_type_29 rfl (lv_at hl 1 rfl) ?_
      refine vp_callSi (va_Run.run (va_runS (As := [.long x1]) (rest := [.int (nI ni)]) ⟨hx, hb, hml, hown, hts⟩ (c_NW_bytesIn l dC dI x1) (cwS 1 hts (nw_GS (nw_m 51 rfl) (nw_m 52 rfl) (nw_m 43 rfl) (nw_m 53 rfl)) rfl rfl rfl (by decide +kernel) ⟨Nat.le_of_ble_eq_true rfl, Nat.le_of_ble_eq_true rfl⟩) (nw_preS hK hP [] [] rfl rfl) rfl rfl hl.1 rfl (lv_room (Nat.le_of_ble_eq_true rfl)) d_NW_type_30 ⟨Nat.le_of_ble_eq_true rfl, Nat.le_of_ble_eq_true rfl⟩)) (fun r her => ?_)
      subst her
      refine lv_iadd hx hb d_NW_type_33 ?_
      refine nw_ti (nI_add ni (nw_cnt (fun j => nw_bk x1 j ≠ 0) 8)) ?_
      refine lv_lload_n hx hb d_NW_type_34 rfl (lv_at hl 2 rfl) ?_
      refine vp_callSi (va_Run.run (va_runS (As := [.long x2]) (rest := [.int (nI (ni + (nw_cnt (fun j => nw_bk x1 j ≠ 0) 8)))]) ⟨hx, hb, hml, hown, hts⟩ (c_NW_bytesIn l dC dI x2) (cwS 1 hts (nw_GS (nw_m 51 rfl) (nw_m 52 rfl) (nw_m 43 rfl) (nw_m 53 rfl)) rfl rfl rfl (by decide +kernel) ⟨Nat.le_of_ble_eq_true rfl, Nat.le_of_ble_eq_true rfl⟩) (nw_preS hK hP [] [] rfl rfl) rfl rfl hl.1 rfl (lv_room (Nat.le_of_ble_eq_true rfl)) d_NW_type_35 ⟨Nat.le_of_ble_eq_true rfl, Nat.le_of_ble_eq_true rfl⟩)) (fun r her => ?_)
      subst her
      refine lv_iadd hx hb d_NW_type_38 ?_
      refine nw_ti (nI_add (ni + (nw_cnt (fun j => nw_bk x1 j ≠ 0) 8)) (nw_cnt (fun j => nw_bk x2 j ≠ 0) 8)) ?_
      refine lv_bipush (v := nI 60) hx hb d_NW_type_39 (by decide) ?_
      refine lv_icmp_le hx hb d_NW_type_41 (tgt := 52) (by decide) (fun a3 => ?_) (fun a3 => ?_)
      · rw [nI_leI (by omega) (by omega)] at a3
        refine lv_aload_n hx hb d_NW_type_52 rfl (lv_at hl 0 rfl) ?_
        refine lv_lload_n hx hb d_NW_type_53 rfl (lv_at hl 1 rfl) ?_
        refine nw_callv (wc := [(oN, .inr (0, [.ref oI, .ref oT, .ref oW, .ref oR, .ref oP, .ref oM, .ref oE])), (oI, .inr (6, [.ref aI, .int (nI ni)])), (aI, nw_ai cB 60 ci)]) (wr := []) hP hD hS hA [0, 1, 2] [] rfl rfl (by decide) (by decide) (va_runV (As := [.long x1]) (rest := []) ⟨hx, hb, hml, hown, hts⟩ (c_NW_append l dC dI _ cB oN oI oT oW oR oP oM oE aI ni ci x1 hy1 (by omega) hci) (cwV (C := R_NW) 1 hts (nw_GV (nw_m 56 rfl) (nw_m 57 rfl) (nw_m 58 rfl) (nw_m 43 rfl) (nw_m 59 rfl)) rfl rfl rfl (by decide +kernel) ⟨Nat.le_of_ble_eq_true rfl, Nat.le_of_ble_eq_true rfl⟩) (nw_prewV (q0 := 0) (ci := 0) (q := (R_NW, F_NW, 7)) hK hP hD [0, 1, 2] [0] (by decide) rfl rfl rfl rfl) rfl rfl hl.1 rfl (lv_room (Nat.le_of_ble_eq_true rfl)) d_NW_type_54 ⟨Nat.le_of_ble_eq_true rfl, Nat.le_of_ble_eq_true rfl⟩) (fun u1 H locs hw hP hD hS => ?_)
        replace hP : va_P (dC, dI) nw_cls [(oN, .inr (0, [.ref oI, .ref oT, .ref oW, .ref oR, .ref oP, .ref oM, .ref oE])), (oI, .inr (6, [.ref aI, .int (nI (ni + nw_cnt (fun j => nw_bk x1 j ≠ 0) 8))])), (aI, nw_ai cB 60 u1)] H := hP
        replace hD : va_D A [(oN, .inr (0, [.ref oI, .ref oT, .ref oW, .ref oR, .ref oP, .ref oM, .ref oE])), (oI, .inr (6, [.ref aI, .int (nI (ni + nw_cnt (fun j => nw_bk x1 j ≠ 0) 8))])), (aI, nw_ai cB 60 u1)] := hD
        obtain ⟨w1, w2, w3⟩ := hw
        refine lv_aload_n hx hb d_NW_type_57 rfl (lv_at hl 0 rfl) ?_
        refine lv_lload_n hx hb d_NW_type_58 rfl (lv_at hl 2 rfl) ?_
        refine nw_callv (wc := [(oN, .inr (0, [.ref oI, .ref oT, .ref oW, .ref oR, .ref oP, .ref oM, .ref oE])), (oI, .inr (6, [.ref aI, .int (nI (ni + nw_cnt (fun j => nw_bk x1 j ≠ 0) 8))])), (aI, nw_ai cB 60 u1)]) (wr := []) hP hD hS hA [0, 1, 2] [] rfl rfl (by decide) (by decide) (va_runV (As := [.long x2]) (rest := []) ⟨hx, hb, hml, hown, hts⟩ (c_NW_append l dC dI _ cB oN oI oT oW oR oP oM oE aI (ni + nw_cnt (fun j => nw_bk x1 j ≠ 0) 8) u1 x2 hy2 hroom w3) (cwV (C := R_NW) 1 hts (nw_GV (nw_m 56 rfl) (nw_m 57 rfl) (nw_m 58 rfl) (nw_m 43 rfl) (nw_m 59 rfl)) rfl rfl rfl (by decide +kernel) ⟨Nat.le_of_ble_eq_true rfl, Nat.le_of_ble_eq_true rfl⟩) (nw_prewV (q0 := 0) (ci := 0) (q := (R_NW, F_NW, 7)) hK hP hD [0, 1, 2] [0] (by decide) rfl rfl rfl rfl) rfl rfl hl.1 rfl (lv_room (Nat.le_of_ble_eq_true rfl)) d_NW_type_59 ⟨Nat.le_of_ble_eq_true rfl, Nat.le_of_ble_eq_true rfl⟩) (fun u H locs hw hP hD hS => ?_)
        replace hP : va_P (dC, dI) nw_cls [(oN, .inr (0, [.ref oI, .ref oT, .ref oW, .ref oR, .ref oP, .ref oM, .ref oE])), (oI, .inr (6, [.ref aI, .int (nI ((ni + nw_cnt (fun j => nw_bk x1 j ≠ 0) 8) + nw_cnt (fun j => nw_bk x2 j ≠ 0) 8))])), (aI, nw_ai cB 60 u)] H := hP
        replace hD : va_D A [(oN, .inr (0, [.ref oI, .ref oT, .ref oW, .ref oR, .ref oP, .ref oM, .ref oE])), (oI, .inr (6, [.ref aI, .int (nI ((ni + nw_cnt (fun j => nw_bk x1 j ≠ 0) 8) + nw_cnt (fun j => nw_bk x2 j ≠ 0) 8))])), (aI, nw_ai cB 60 u)] := hD
        obtain ⟨v1, v2, v3⟩ := hw
        refine lv_aload_n hx hb d_NW_type_62 rfl (lv_at hl 0 rfl) ?_
        refine va_get (D := (dC, dI)) (ci := 0) (v := .ref oI) (C := R_NW) (T := F_NW) (N := 7) hx hb hts hin_NW hown hK hP 0 rfl rfl 0 (by decide) (hts _ (nw_mc 8 rfl)) (fun _ h9 => h9) rfl d_NW_type_63 ?_
        refine vp_callSi (va_Run.run (va_runV (As := []) (rest := []) ⟨hx, hb, hml, hown, hts⟩ (c_Row_length l dC dI oI aI ((ni + nw_cnt (fun j => nw_bk x1 j ≠ 0) 8) + nw_cnt (fun j => nw_bk x2 j ≠ 0) 8)) (cwV (C := R_Row) 0 hts (nw_GV (nw_m 47 rfl) (nw_m 48 rfl) (nw_m 49 rfl) (nw_m 5 rfl) (nw_m 50 rfl)) rfl rfl rfl (by decide +kernel) ⟨Nat.le_of_ble_eq_true rfl, Nat.le_of_ble_eq_true rfl⟩) (nw_preV (q0 := 1) (ci := 6) (q := (R_Row, F_Row, 2)) hK hP [1] [] rfl rfl rfl rfl) rfl rfl hl.1 rfl (lv_room (Nat.le_of_ble_eq_true rfl)) d_NW_type_66 ⟨Nat.le_of_ble_eq_true rfl, Nat.le_of_ble_eq_true rfl⟩)) (fun r her => ?_)
        subst her
        exact W.iret (v := nI ((ni + nw_cnt (fun j => nw_bk x1 j ≠ 0) 8) + nw_cnt (fun j => nw_bk x2 j ≠ 0) 8)) hx hb hr (fun t ht hW => ⟨⟨_, u, rfl, ⟨rfl, fun j hj => (v1 j (by omega)).trans (w1 j hj), fun i hi hb => (v1 _ (by have := nw_cnt_lt (f := fun j => nw_bk x1 j ≠ 0) hi hb; omega)).trans (w2 i hi hb), v2, v3⟩, by rw [ht]; exact hP, hD⟩, hS.F ht⟩) hS.2.2 d_NW_type_69
      · rw [nI_leI (by omega) (by omega)] at a3
        omega
    · rw [nw_eq0 (by omega)] at a2
      omega

set_option maxHeartbeats 4000000 in
set_option maxRecDepth 100000 in
theorem c_NW_type_bad (l : Launch) (hlt : l.stackTraces = false) (dC : Nat → ClassId) (dI : Nat → Nat → Nat) (sz : Nat) (oN oI oT oW oR oP oM oE : Nat) (x1 x2 : Int64) (hbad : (∃ k, k < 8 ∧ nw_bad (nw_bk x1 k)) ∨ ((∀ k, k < 8 → ¬ nw_bad (nw_bk x1 k)) ∧ ∃ k, k < 8 ∧ nw_bad (nw_bk x2 k))) : nx_Thr l y_NW_type w_NW_type ({ frames := 6, cells := 1, slots := 6, locals := 81 }) (nx_Pw [.ref oN, .long x1, .long x2] (dC, dI) nw_cls [] [(oN, .inr (0, [.ref oI, .ref oT, .ref oW, .ref oR, .ref oP, .ref oM, .ref oE]))] sz) (nx_Qx "java/lang/IllegalArgumentException" (dC, dI) nw_cls (va_A [(oN, .inr (0, [.ref oI, .ref oT, .ref oW, .ref oR, .ref oP, .ref oM, .ref oE]))] sz) [(oN, .inr (0, [.ref oI, .ref oT, .ref oW, .ref oR, .ref oP, .ref oM, .ref oE]))]) 1 6 (va_A [(oN, .inr (0, [.ref oI, .ref oT, .ref oW, .ref oR, .ref oP, .ref oM, .ref oE]))] sz) := by
  refine nx_ofW (cc := b_NW_type) (maxL := 5) (ret := (some .int)) (by decide) rfl ?_
  intro p e s m args below meth cd s₁ B hml hnh hv0
  obtain ⟨rfl, hsz, hP, hK, hD0, hok⟩ := hv0
  have hx := B.exec
  have hb := B.bytes
  have hr := B.returns
  have hts := atoms_spec (ws := w_NW_type) B.pre
  have hown : s.vm.findClass R_NW = some m.cls := findClass_of_methodNamed B.named
  have hlocks := B.notSynchronized
  have htb : ∀ w ∈ nw_tbl, w.before _ s = true := fun w hw => hts w (List.mem_cons_of_mem _ hw)
  subst hsz
  have hD := hD0.self (sz := s.heap.size)
  generalize hAe : va_A [(oN, .inr (0, [.ref oI, .ref oT, .ref oW, .ref oR, .ref oP, .ref oM, .ref oE]))] s.heap.size = A at hD hok ⊢
  have hA : ∀ q : Nat, s.heap.size ≤ q → A q := fun q h => by rw [← hAe]; exact Or.inr h
  have hS : va_S A s.heap s.heap [] := va_S.rf
  have hl := lv_entry ([.ref oN, .long x1, .long x2]) (n := 5) (Nat.le_of_ble_eq_true rfl)
  rw [lg_entry_eq]
  generalize (lg_sl ([.ref oN, .long x1, .long x2]) ++ List.replicate (5 - (lg_sl ([.ref oN, .long x1, .long x2])).length) Slot.unset).toArray = ls at hl ⊢
  have hl : lv_has ls 5 [(0, .ref oN), (1, .long x1), (3, .long x2)] := hl
  rcases hbad with hb1 | ⟨hy1, hb2⟩
  · refine lv_lload_n hx hb d_NW_type_0 rfl (lv_at hl 1 rfl) ?_
    refine vp_callSi (va_Run.run (va_runS (As := [.long x1]) (rest := []) ⟨hx, hb, hml, hown, hts⟩ (c_NW_isT_n l dC dI x1 hb1) (cwS 1 hts (nw_GS (nw_m 41 rfl) (nw_m 42 rfl) (nw_m 43 rfl) (nw_m 44 rfl)) rfl rfl rfl (by decide +kernel) ⟨Nat.le_of_ble_eq_true rfl, Nat.le_of_ble_eq_true rfl⟩) (nw_preS hK hP [] [] rfl rfl) rfl rfl hl.1 rfl (lv_room (Nat.le_of_ble_eq_true rfl)) d_NW_type_1 ⟨Nat.le_of_ble_eq_true rfl, Nat.le_of_ble_eq_true rfl⟩)) (fun r her => ?_)
    subst her
    refine lv_if_eq hx hb d_NW_type_4 (tgt := 14) (by decide) (fun a1 => ?_) (fun a1 => ?_)
    · exact nx_throw hx hb hlt (own := R_NW) (cls := "java/lang/IllegalArgumentException") (names := nx_names) (ik := 58) (ic := 60) hown (by decide +kernel) (by decide +kernel) (fun U hU => va_tabs rfl hU.symm (hts _ (nw_mc 45 rfl))) (fun U hU => va_tabs rfl hU.symm (hts _ (nw_mc 46 rfl))) (fun U hU hH w hw => (hok.kept hS.2.1).words htb hU hH w (List.mem_append_left _ hw)) hlocks hnh (hl.1.trans hml.symm) d_NW_type_14 d_NW_type_17 d_NW_type_18 d_NW_type_21 (Nat.le_of_ble_eq_true rfl) (Nat.le_of_ble_eq_true rfl) (Nat.le_of_ble_eq_true rfl) (Nat.le_of_ble_eq_true rfl) (Nat.le_of_ble_eq_true rfl) (Nat.le_of_ble_eq_true rfl) hS.2.2 (nx_thq hP hD hS)
    · rw [nw_eq0 (by omega)] at a1
      omega
  · refine lv_lload_n hx hb d_NW_type_0 rfl (lv_at hl 1 rfl) ?_
    refine vp_callSi (va_Run.run (va_runS (As := [.long x1]) (rest := []) ⟨hx, hb, hml, hown, hts⟩ (c_NW_isT_y l dC dI x1 hy1) (cwS 1 hts (nw_GS (nw_m 41 rfl) (nw_m 42 rfl) (nw_m 43 rfl) (nw_m 44 rfl)) rfl rfl rfl (by decide +kernel) ⟨Nat.le_of_ble_eq_true rfl, Nat.le_of_ble_eq_true rfl⟩) (nw_preS hK hP [] [] rfl rfl) rfl rfl hl.1 rfl (lv_room (Nat.le_of_ble_eq_true rfl)) d_NW_type_1 ⟨Nat.le_of_ble_eq_true rfl, Nat.le_of_ble_eq_true rfl⟩)) (fun r her => ?_)
    subst her
    refine lv_if_eq hx hb d_NW_type_4 (tgt := 14) (by decide) (fun a1 => ?_) (fun a1 => ?_)
    · rw [nw_eq0 (by omega)] at a1
      omega
    · rw [nw_eq0 (by omega)] at a1
      refine lv_lload_n hx hb d_NW_type_7 rfl (lv_at hl 2 rfl) ?_
      refine vp_callSi (va_Run.run (va_runS (As := [.long x2]) (rest := []) ⟨hx, hb, hml, hown, hts⟩ (c_NW_isT_n l dC dI x2 hb2) (cwS 1 hts (nw_GS (nw_m 41 rfl) (nw_m 42 rfl) (nw_m 43 rfl) (nw_m 44 rfl)) rfl rfl rfl (by decide +kernel) ⟨Nat.le_of_ble_eq_true rfl, Nat.le_of_ble_eq_true rfl⟩) (nw_preS hK hP [] [] rfl rfl) rfl rfl hl.1 rfl (lv_room (Nat.le_of_ble_eq_true rfl)) d_NW_type_8 ⟨Nat.le_of_ble_eq_true rfl, Nat.le_of_ble_eq_true rfl⟩)) (fun r her => ?_)
      subst her
      refine lv_if_ne hx hb d_NW_type_11 (tgt := 22) (by decide) (fun a2 => ?_) (fun a2 => ?_)
      · rw [nw_eq0 (by omega)] at a2
        omega
      · exact nx_throw hx hb hlt (own := R_NW) (cls := "java/lang/IllegalArgumentException") (names := nx_names) (ik := 58) (ic := 60) hown (by decide +kernel) (by decide +kernel) (fun U hU => va_tabs rfl hU.symm (hts _ (nw_mc 45 rfl))) (fun U hU => va_tabs rfl hU.symm (hts _ (nw_mc 46 rfl))) (fun U hU hH w hw => (hok.kept hS.2.1).words htb hU hH w (List.mem_append_left _ hw)) hlocks hnh (hl.1.trans hml.symm) d_NW_type_14 d_NW_type_17 d_NW_type_18 d_NW_type_21 (Nat.le_of_ble_eq_true rfl) (Nat.le_of_ble_eq_true rfl) (Nat.le_of_ble_eq_true rfl) (Nat.le_of_ble_eq_true rfl) (Nat.le_of_ble_eq_true rfl) (Nat.le_of_ble_eq_true rfl) hS.2.2 (nx_thq hP hD hS)

set_option maxHeartbeats 4000000 in
set_option maxRecDepth 100000 in
theorem c_NW_type_full (l : Launch) (hlt : l.stackTraces = false) (dC : Nat → ClassId) (dI : Nat → Nat → Nat) (sz : Nat) (oN oI oT oW oR oP oM oE : Nat) (aI ni : Nat) (x1 x2 : Int64) (hy1 : ∀ k, k < 8 → ¬ nw_bad (nw_bk x1 k)) (hy2 : ∀ k, k < 8 → ¬ nw_bad (nw_bk x2 k)) (hni : ni ≤ 60) (hfull : 60 < ni + nw_cnt (fun j => nw_bk x1 j ≠ 0) 8 + nw_cnt (fun j => nw_bk x2 j ≠ 0) 8) : nx_Thr l y_NW_type w_NW_type ({ frames := 6, cells := 1, slots := 6, locals := 81 }) (nx_Pw [.ref oN, .long x1, .long x2] (dC, dI) nw_cls [] [(oN, .inr (0, [.ref oI, .ref oT, .ref oW, .ref oR, .ref oP, .ref oM, .ref oE])), (oI, .inr (6, [.ref aI, .int (nI ni)]))] sz) (nx_Qx "java/lang/IndexOutOfBoundsException" (dC, dI) nw_cls (va_A [(oN, .inr (0, [.ref oI, .ref oT, .ref oW, .ref oR, .ref oP, .ref oM, .ref oE])), (oI, .inr (6, [.ref aI, .int (nI ni)]))] sz) [(oN, .inr (0, [.ref oI, .ref oT, .ref oW, .ref oR, .ref oP, .ref oM, .ref oE])), (oI, .inr (6, [.ref aI, .int (nI ni)]))]) 1 6 (va_A [(oN, .inr (0, [.ref oI, .ref oT, .ref oW, .ref oR, .ref oP, .ref oM, .ref oE])), (oI, .inr (6, [.ref aI, .int (nI ni)]))] sz) := by
  refine nx_ofW (cc := b_NW_type) (maxL := 5) (ret := (some .int)) (by decide) rfl ?_
  intro p e s m args below meth cd s₁ B hml hnh hv0
  obtain ⟨rfl, hsz, hP, hK, hD0, hok⟩ := hv0
  have hx := B.exec
  have hb := B.bytes
  have hr := B.returns
  have hts := atoms_spec (ws := w_NW_type) B.pre
  have hown : s.vm.findClass R_NW = some m.cls := findClass_of_methodNamed B.named
  have hlocks := B.notSynchronized
  have htb : ∀ w ∈ nw_tbl, w.before _ s = true := fun w hw => hts w (List.mem_cons_of_mem _ hw)
  subst hsz
  have hD := hD0.self (sz := s.heap.size)
  generalize hAe : va_A [(oN, .inr (0, [.ref oI, .ref oT, .ref oW, .ref oR, .ref oP, .ref oM, .ref oE])), (oI, .inr (6, [.ref aI, .int (nI ni)]))] s.heap.size = A at hD hok ⊢
  have hA : ∀ q : Nat, s.heap.size ≤ q → A q := fun q h => by rw [← hAe]; exact Or.inr h
  have hS : va_S A s.heap s.heap [] := va_S.rf
  have hl := lv_entry ([.ref oN, .long x1, .long x2]) (n := 5) (Nat.le_of_ble_eq_true rfl)
  rw [lg_entry_eq]
  generalize (lg_sl ([.ref oN, .long x1, .long x2]) ++ List.replicate (5 - (lg_sl ([.ref oN, .long x1, .long x2])).length) Slot.unset).toArray = ls at hl ⊢
  have hl : lv_has ls 5 [(0, .ref oN), (1, .long x1), (3, .long x2)] := hl
  have hc1 := nw_cnt_le (fun j => nw_bk x1 j ≠ 0) 8
  have hc2 := nw_cnt_le (fun j => nw_bk x2 j ≠ 0) 8
  refine lv_lload_n hx hb d_NW_type_0 rfl (lv_at hl 1 rfl) ?_
  refine vp_callSi (va_Run.run (va_runS (As := [.long x1]) (rest := []) ⟨hx, hb, hml, hown, hts⟩ (c_NW_isT_y l dC dI x1 hy1) (cwS 1 hts (nw_GS (nw_m 41 rfl) (nw_m 42 rfl) (nw_m 43 rfl) (nw_m 44 rfl)) rfl rfl rfl (by decide +kernel) ⟨Nat.le_of_ble_eq_true rfl, Nat.le_of_ble_eq_true rfl⟩) (nw_preS hK hP [] [] rfl rfl) rfl rfl hl.1 rfl (lv_room (Nat.le_of_ble_eq_true rfl)) d_NW_type_1 ⟨Nat.le_of_ble_eq_true rfl, Nat.le_of_ble_eq_true rfl⟩)) (fun r her => ?_)
  subst her
  refine lv_if_eq hx hb d_NW_type_4 (tgt := 14) (by decide) (fun a1 => ?_) (fun a1 => ?_)
  · rw [nw_eq0 (by omega)] at a1
    omega
  · rw [nw_eq0 (by omega)] at a1
    refine lv_lload_n hx hb d_NW_type_7 rfl (lv_at hl 2 rfl) ?_
    refine vp_callSi (va_Run.run (va_runS (As := [.long x2]) (rest := []) ⟨hx, hb, hml, hown, hts⟩ (c_NW_isT_y l dC dI x2 hy2) (cwS 1 hts (nw_GS (nw_m 41 rfl) (nw_m 42 rfl) (nw_m 43 rfl) (nw_m 44 rfl)) rfl rfl rfl (by decide +kernel) ⟨Nat.le_of_ble_eq_true rfl, Nat.le_of_ble_eq_true rfl⟩) (nw_preS hK hP [] [] rfl rfl) rfl rfl hl.1 rfl (lv_room (Nat.le_of_ble_eq_true rfl)) d_NW_type_8 ⟨Nat.le_of_ble_eq_true rfl, Nat.le_of_ble_eq_true rfl⟩)) (fun r her => ?_)
    subst her
    refine lv_if_ne hx hb d_NW_type_11 (tgt := 22) (by decide) (fun a2 => ?_) (fun a2 => ?_)
    · rw [nw_eq0 (by omega)] at a2
      refine lv_aload_n hx hb d_NW_type_22 rfl (lv_at hl 0 rfl) ?_
      refine va_get (D := (dC, dI)) (ci := 0) (v := .ref oI) (C := R_NW) (T := F_NW) (N := 7) hx hb hts hin_NW hown hK hP 0 rfl rfl 0 (by decide) (hts _ (nw_mc 8 rfl)) (fun _ h9 => h9) rfl d_NW_type_23 ?_
      refine vp_callSi (va_Run.run (va_runV (As := []) (rest := []) ⟨hx, hb, hml, hown, hts⟩ (c_Row_length l dC dI oI aI ni) (cwV (C := R_Row) 0 hts (nw_GV (nw_m 47 rfl) (nw_m 48 rfl) (nw_m 49 rfl) (nw_m 5 rfl) (nw_m 50 rfl)) rfl rfl rfl (by decide +kernel) ⟨Nat.le_of_ble_eq_true rfl, Nat.le_of_ble_eq_true rfl⟩) (nw_preV (q0 := 1) (ci := 6) (q := (R_Row, F_Row, 2)) hK hP [1] [] rfl rfl rfl rfl) rfl rfl hl.1 rfl (lv_room (Nat.le_of_ble_eq_true rfl)) d_NW_type_26 ⟨Nat.le_of_ble_eq_true rfl, Nat.le_of_ble_eq_true rfl⟩)) (fun r her => ?_)
      subst her
      refine lv_lload_n hx hb d_NW_type_29 rfl (lv_at hl 1 rfl) ?_
      refine vp_callSi (va_Run.run (va_runS (As := [.long x1]) (rest := [.int (nI ni)]) ⟨hx, hb, hml, hown, hts⟩ (c_NW_bytesIn l dC dI x1) (cwS 1 hts (nw_GS (nw_m 51 rfl) (nw_m 52 rfl) (nw_m 43 rfl) (nw_m 53 rfl)) rfl rfl rfl (by decide +kernel) ⟨Nat.le_of_ble_eq_true rfl, Nat.le_of_ble_eq_true rfl⟩) (nw_preS hK hP [] [] rfl rfl) rfl rfl hl.1 rfl (lv_room (Nat.le_of_ble_eq_true rfl)) d_NW_type_30 ⟨Nat.le_of_ble_eq_true rfl, Nat.le_of_ble_eq_true rfl⟩)) (fun r her => ?_)
      subst her
      refine lv_iadd hx hb d_NW_type_33 ?_
      refine nw_ti (nI_add ni (nw_cnt (fun j => nw_bk x1 j ≠ 0) 8)) ?_
      refine lv_lload_n hx hb d_NW_type_34 rfl (lv_at hl 2 rfl) ?_
      refine vp_callSi (va_Run.run (va_runS (As := [.long x2]) (rest := [.int (nI (ni + (nw_cnt (fun j => nw_bk x1 j ≠ 0) 8)))]) ⟨hx, hb, hml, hown, hts⟩ (c_NW_bytesIn l dC dI x2) (cwS 1 hts (nw_GS (nw_m 51 rfl) (nw_m 52 rfl) (nw_m 43 rfl) (nw_m 53 rfl)) rfl rfl rfl (by decide +kernel) ⟨Nat.le_of_ble_eq_true rfl, Nat.le_of_ble_eq_true rfl⟩) (nw_preS hK hP [] [] rfl rfl) rfl rfl hl.1 rfl (lv_room (Nat.le_of_ble_eq_true rfl)) d_NW_type_35 ⟨Nat.le_of_ble_eq_true rfl, Nat.le_of_ble_eq_true rfl⟩)) (fun r her => ?_)
      subst her
      refine lv_iadd hx hb d_NW_type_38 ?_
      refine nw_ti (nI_add (ni + (nw_cnt (fun j => nw_bk x1 j ≠ 0) 8)) (nw_cnt (fun j => nw_bk x2 j ≠ 0) 8)) ?_
      refine lv_bipush (v := nI 60) hx hb d_NW_type_39 (by decide) ?_
      refine lv_icmp_le hx hb d_NW_type_41 (tgt := 52) (by decide) (fun a3 => ?_) (fun a3 => ?_)
      · rw [nI_leI (by omega) (by omega)] at a3
        omega
      · exact nx_throw hx hb hlt (own := R_NW) (cls := "java/lang/IndexOutOfBoundsException") (names := nx_names) (ik := 69) (ic := 71) hown (by decide +kernel) (by decide +kernel) (fun U hU => va_tabs rfl hU.symm (hts _ (nw_mc 54 rfl))) (fun U hU => va_tabs rfl hU.symm (hts _ (nw_mc 55 rfl))) (fun U hU hH w hw => (hok.kept hS.2.1).words htb hU hH w (List.mem_append_right _ hw)) hlocks hnh (hl.1.trans hml.symm) d_NW_type_44 d_NW_type_47 d_NW_type_48 d_NW_type_51 (Nat.le_of_ble_eq_true rfl) (Nat.le_of_ble_eq_true rfl) (Nat.le_of_ble_eq_true rfl) (Nat.le_of_ble_eq_true rfl) (Nat.le_of_ble_eq_true rfl) (Nat.le_of_ble_eq_true rfl) hS.2.2 (nx_thq hP hD hS)
    · rw [nw_eq0 (by omega)] at a2
      omega

set_option maxHeartbeats 4000000 in
set_option maxRecDepth 100000 in
theorem c_NW_add_bad (l : Launch) (hlt : l.stackTraces = false) (dC : Nat → ClassId) (dI : Nat → Nat → Nat) (sz : Nat) (oN oI oT oW oR oP oM oE : Nat) (aI ni aT nt : Nat) (hz : ni = 0) : nx_Thr l y_NW_add w_NW_add ({ frames := 6, cells := 1, slots := 6, locals := 81 }) (nx_Pw [.ref oN] (dC, dI) nw_cls [] [(oN, .inr (0, [.ref oI, .ref oT, .ref oW, .ref oR, .ref oP, .ref oM, .ref oE])), (oI, .inr (6, [.ref aI, .int (nI ni)])), (oT, .inr (6, [.ref aT, .int (nI nt)]))] sz) (nx_Qx "java/lang/IllegalArgumentException" (dC, dI) nw_cls (va_A [(oN, .inr (0, [.ref oI, .ref oT, .ref oW, .ref oR, .ref oP, .ref oM, .ref oE])), (oI, .inr (6, [.ref aI, .int (nI ni)])), (oT, .inr (6, [.ref aT, .int (nI nt)]))] sz) [(oN, .inr (0, [.ref oT, .ref oI, .ref oW, .ref oR, .ref oP, .ref oM, .ref oE])), (oI, .inr (6, [.ref aI, .int (nI ni)])), (oT, .inr (6, [.ref aT, .int (nI 0)]))]) 1 6 (va_A [(oN, .inr (0, [.ref oI, .ref oT, .ref oW, .ref oR, .ref oP, .ref oM, .ref oE])), (oI, .inr (6, [.ref aI, .int (nI ni)])), (oT, .inr (6, [.ref aT, .int (nI nt)]))] sz) := by
  refine nx_ofW (cc := b_NW_add) (maxL := 3) (ret := (some .int)) (by decide) rfl ?_
  intro p e s m args below meth cd s₁ B hml hnh hv0
  obtain ⟨rfl, hsz, hP, hK, hD0, hok⟩ := hv0
  have hx := B.exec
  have hb := B.bytes
  have hr := B.returns
  have hts := atoms_spec (ws := w_NW_add) B.pre
  have hown : s.vm.findClass R_NW = some m.cls := findClass_of_methodNamed B.named
  have hlocks := B.notSynchronized
  have htb : ∀ w ∈ nw_tbl, w.before _ s = true := fun w hw => hts w (List.mem_cons_of_mem _ hw)
  subst hsz
  have hD := hD0.self (sz := s.heap.size)
  generalize hAe : va_A [(oN, .inr (0, [.ref oI, .ref oT, .ref oW, .ref oR, .ref oP, .ref oM, .ref oE])), (oI, .inr (6, [.ref aI, .int (nI ni)])), (oT, .inr (6, [.ref aT, .int (nI nt)]))] s.heap.size = A at hD hok ⊢
  have hA : ∀ q : Nat, s.heap.size ≤ q → A q := fun q h => by rw [← hAe]; exact Or.inr h
  have hS : va_S A s.heap s.heap [] := va_S.rf
  have hl := lv_entry ([.ref oN]) (n := 3) (Nat.le_of_ble_eq_true rfl)
  rw [lg_entry_eq]
  generalize (lg_sl ([.ref oN]) ++ List.replicate (3 - (lg_sl ([.ref oN])).length) Slot.unset).toArray = ls at hl ⊢
  have hl : lv_has ls 3 [(0, .ref oN)] := hl
  refine lv_aload_n hx hb d_NW_add_0 rfl (lv_at hl 0 rfl) ?_
  refine nw_callr (wc := [(oN, .inr (0, [.ref oI, .ref oT, .ref oW, .ref oR, .ref oP, .ref oM, .ref oE])), (oI, .inr (6, [.ref aI, .int (nI ni)])), (oT, .inr (6, [.ref aT, .int (nI nt)]))]) (wr := []) hP hD hS hA [0, 1, 2] [] rfl rfl (by decide) (by decide) (va_runV (As := []) (rest := []) ⟨hx, hb, hml, hown, hts⟩ (c_NW_take l dC dI _ oN oI oT oW oR oP oM oE aI ni aT nt) (cwV (C := R_NW) 0 hts (nw_GV (nw_m 60 rfl) (nw_m 61 rfl) (nw_m 62 rfl) (nw_m 43 rfl) (nw_m 63 rfl)) rfl rfl rfl (by decide +kernel) ⟨Nat.le_of_ble_eq_true rfl, Nat.le_of_ble_eq_true rfl⟩) (nw_prewV (q0 := 0) (ci := 0) (q := (R_NW, F_NW, 7)) hK hP hD [0, 1, 2] [] (by decide) rfl rfl rfl rfl) rfl rfl hl.1 rfl (lv_room (Nat.le_of_ble_eq_true rfl)) d_NW_add_1 ⟨Nat.le_of_ble_eq_true rfl, Nat.le_of_ble_eq_true rfl⟩) (fun r _ H locs hw hP hD hS => ?_)
  replace hP : va_P (dC, dI) nw_cls [(oN, .inr (0, [.ref oT, .ref oI, .ref oW, .ref oR, .ref oP, .ref oM, .ref oE])), (oI, .inr (6, [.ref aI, .int (nI ni)])), (oT, .inr (6, [.ref aT, .int (nI 0)]))] H := hP
  replace hD : va_D A [(oN, .inr (0, [.ref oT, .ref oI, .ref oW, .ref oR, .ref oP, .ref oM, .ref oE])), (oI, .inr (6, [.ref aI, .int (nI ni)])), (oT, .inr (6, [.ref aT, .int (nI 0)]))] := hD
  have hw := hw.symm
  subst hw
  refine lv_astore_n hx hb d_NW_add_4 rfl hl (by decide) rfl (fun ls hl => ?_)
  replace hl : lv_has ls 3 [(1, .ref oI), (0, .ref oN)] := hl
  refine lv_aload_n hx hb d_NW_add_5 rfl (lv_at hl 0 rfl) ?_
  refine vp_callSi (va_Run.run (va_runV (As := []) (rest := []) ⟨hx, hb, hml, hown, hts⟩ (c_Row_isEmpty l dC dI oI aI ni (by omega)) (cwV (C := R_Row) 0 hts (nw_GV (nw_m 64 rfl) (nw_m 65 rfl) (nw_m 66 rfl) (nw_m 5 rfl) (nw_m 67 rfl)) rfl rfl rfl (by decide +kernel) ⟨Nat.le_of_ble_eq_true rfl, Nat.le_of_ble_eq_true rfl⟩) (nw_preV (q0 := 1) (ci := 6) (q := (R_Row, F_Row, 2)) hK hP [1] [] rfl rfl rfl rfl) rfl rfl hl.1 rfl (lv_room (Nat.le_of_ble_eq_true rfl)) d_NW_add_6 ⟨Nat.le_of_ble_eq_true rfl, Nat.le_of_ble_eq_true rfl⟩)) (fun r her => ?_)
  subst her
  refine nw_ti (y := nI 1) (congrArg nI (by rw [if_pos hz])) ?_
  refine lv_if_eq hx hb d_NW_add_9 (tgt := 20) (by decide) (fun a1 => ?_) (fun a1 => ?_)
  · rw [nw_eq0 (by omega)] at a1
    omega
  · exact nx_throw hx hb hlt (own := R_NW) (cls := "java/lang/IllegalArgumentException") (names := nx_names) (ik := 58) (ic := 60) hown (by decide +kernel) (by decide +kernel) (fun U hU => va_tabs rfl hU.symm (hts _ (nw_mc 45 rfl))) (fun U hU => va_tabs rfl hU.symm (hts _ (nw_mc 46 rfl))) (fun U hU hH w hw => (hok.kept hS.2.1).words htb hU hH w (List.mem_append_left _ hw)) hlocks hnh (hl.1.trans hml.symm) d_NW_add_12 d_NW_add_15 d_NW_add_16 d_NW_add_19 (Nat.le_of_ble_eq_true rfl) (Nat.le_of_ble_eq_true rfl) (Nat.le_of_ble_eq_true rfl) (Nat.le_of_ble_eq_true rfl) (Nat.le_of_ble_eq_true rfl) (Nat.le_of_ble_eq_true rfl) hS.2.2 (nx_thq hP hD hS)

set_option maxHeartbeats 4000000 in
set_option maxRecDepth 100000 in
theorem c_NW_remove_bad (l : Launch) (hlt : l.stackTraces = false) (dC : Nat → ClassId) (dI : Nat → Nat → Nat) (sz : Nat) (oN oI oT oW oR oP oM oE : Nat) (aI ni aT nt : Nat) (hz : ni = 0) : nx_Thr l y_NW_remove w_NW_remove ({ frames := 6, cells := 1, slots := 6, locals := 81 }) (nx_Pw [.ref oN] (dC, dI) nw_cls [] [(oN, .inr (0, [.ref oI, .ref oT, .ref oW, .ref oR, .ref oP, .ref oM, .ref oE])), (oI, .inr (6, [.ref aI, .int (nI ni)])), (oT, .inr (6, [.ref aT, .int (nI nt)]))] sz) (nx_Qx "java/lang/IllegalArgumentException" (dC, dI) nw_cls (va_A [(oN, .inr (0, [.ref oI, .ref oT, .ref oW, .ref oR, .ref oP, .ref oM, .ref oE])), (oI, .inr (6, [.ref aI, .int (nI ni)])), (oT, .inr (6, [.ref aT, .int (nI nt)]))] sz) [(oN, .inr (0, [.ref oT, .ref oI, .ref oW, .ref oR, .ref oP, .ref oM, .ref oE])), (oI, .inr (6, [.ref aI, .int (nI ni)])), (oT, .inr (6, [.ref aT, .int (nI 0)]))]) 1 6 (va_A [(oN, .inr (0, [.ref oI, .ref oT, .ref oW, .ref oR, .ref oP, .ref oM, .ref oE])), (oI, .inr (6, [.ref aI, .int (nI ni)])), (oT, .inr (6, [.ref aT, .int (nI nt)]))] sz) := by
  refine nx_ofW (cc := b_NW_remove) (maxL := 3) (ret := (some .int)) (by decide) rfl ?_
  intro p e s m args below meth cd s₁ B hml hnh hv0
  obtain ⟨rfl, hsz, hP, hK, hD0, hok⟩ := hv0
  have hx := B.exec
  have hb := B.bytes
  have hr := B.returns
  have hts := atoms_spec (ws := w_NW_remove) B.pre
  have hown : s.vm.findClass R_NW = some m.cls := findClass_of_methodNamed B.named
  have hlocks := B.notSynchronized
  have htb : ∀ w ∈ nw_tbl, w.before _ s = true := fun w hw => hts w (List.mem_cons_of_mem _ hw)
  subst hsz
  have hD := hD0.self (sz := s.heap.size)
  generalize hAe : va_A [(oN, .inr (0, [.ref oI, .ref oT, .ref oW, .ref oR, .ref oP, .ref oM, .ref oE])), (oI, .inr (6, [.ref aI, .int (nI ni)])), (oT, .inr (6, [.ref aT, .int (nI nt)]))] s.heap.size = A at hD hok ⊢
  have hA : ∀ q : Nat, s.heap.size ≤ q → A q := fun q h => by rw [← hAe]; exact Or.inr h
  have hS : va_S A s.heap s.heap [] := va_S.rf
  have hl := lv_entry ([.ref oN]) (n := 3) (Nat.le_of_ble_eq_true rfl)
  rw [lg_entry_eq]
  generalize (lg_sl ([.ref oN]) ++ List.replicate (3 - (lg_sl ([.ref oN])).length) Slot.unset).toArray = ls at hl ⊢
  have hl : lv_has ls 3 [(0, .ref oN)] := hl
  refine lv_aload_n hx hb d_NW_remove_0 rfl (lv_at hl 0 rfl) ?_
  refine nw_callr (wc := [(oN, .inr (0, [.ref oI, .ref oT, .ref oW, .ref oR, .ref oP, .ref oM, .ref oE])), (oI, .inr (6, [.ref aI, .int (nI ni)])), (oT, .inr (6, [.ref aT, .int (nI nt)]))]) (wr := []) hP hD hS hA [0, 1, 2] [] rfl rfl (by decide) (by decide) (va_runV (As := []) (rest := []) ⟨hx, hb, hml, hown, hts⟩ (c_NW_take l dC dI _ oN oI oT oW oR oP oM oE aI ni aT nt) (cwV (C := R_NW) 0 hts (nw_GV (nw_m 60 rfl) (nw_m 61 rfl) (nw_m 62 rfl) (nw_m 43 rfl) (nw_m 63 rfl)) rfl rfl rfl (by decide +kernel) ⟨Nat.le_of_ble_eq_true rfl, Nat.le_of_ble_eq_true rfl⟩) (nw_prewV (q0 := 0) (ci := 0) (q := (R_NW, F_NW, 7)) hK hP hD [0, 1, 2] [] (by decide) rfl rfl rfl rfl) rfl rfl hl.1 rfl (lv_room (Nat.le_of_ble_eq_true rfl)) d_NW_remove_1 ⟨Nat.le_of_ble_eq_true rfl, Nat.le_of_ble_eq_true rfl⟩) (fun r _ H locs hw hP hD hS => ?_)
  replace hP : va_P (dC, dI) nw_cls [(oN, .inr (0, [.ref oT, .ref oI, .ref oW, .ref oR, .ref oP, .ref oM, .ref oE])), (oI, .inr (6, [.ref aI, .int (nI ni)])), (oT, .inr (6, [.ref aT, .int (nI 0)]))] H := hP
  replace hD : va_D A [(oN, .inr (0, [.ref oT, .ref oI, .ref oW, .ref oR, .ref oP, .ref oM, .ref oE])), (oI, .inr (6, [.ref aI, .int (nI ni)])), (oT, .inr (6, [.ref aT, .int (nI 0)]))] := hD
  have hw := hw.symm
  subst hw
  refine lv_astore_n hx hb d_NW_remove_4 rfl hl (by decide) rfl (fun ls hl => ?_)
  replace hl : lv_has ls 3 [(1, .ref oI), (0, .ref oN)] := hl
  refine lv_aload_n hx hb d_NW_remove_5 rfl (lv_at hl 0 rfl) ?_
  refine vp_callSi (va_Run.run (va_runV (As := []) (rest := []) ⟨hx, hb, hml, hown, hts⟩ (c_Row_isEmpty l dC dI oI aI ni (by omega)) (cwV (C := R_Row) 0 hts (nw_GV (nw_m 64 rfl) (nw_m 65 rfl) (nw_m 66 rfl) (nw_m 5 rfl) (nw_m 67 rfl)) rfl rfl rfl (by decide +kernel) ⟨Nat.le_of_ble_eq_true rfl, Nat.le_of_ble_eq_true rfl⟩) (nw_preV (q0 := 1) (ci := 6) (q := (R_Row, F_Row, 2)) hK hP [1] [] rfl rfl rfl rfl) rfl rfl hl.1 rfl (lv_room (Nat.le_of_ble_eq_true rfl)) d_NW_remove_6 ⟨Nat.le_of_ble_eq_true rfl, Nat.le_of_ble_eq_true rfl⟩)) (fun r her => ?_)
  subst her
  refine nw_ti (y := nI 1) (congrArg nI (by rw [if_pos hz])) ?_
  refine lv_if_eq hx hb d_NW_remove_9 (tgt := 20) (by decide) (fun a1 => ?_) (fun a1 => ?_)
  · rw [nw_eq0 (by omega)] at a1
    omega
  · exact nx_throw hx hb hlt (own := R_NW) (cls := "java/lang/IllegalArgumentException") (names := nx_names) (ik := 58) (ic := 60) hown (by decide +kernel) (by decide +kernel) (fun U hU => va_tabs rfl hU.symm (hts _ (nw_mc 45 rfl))) (fun U hU => va_tabs rfl hU.symm (hts _ (nw_mc 46 rfl))) (fun U hU hH w hw => (hok.kept hS.2.1).words htb hU hH w (List.mem_append_left _ hw)) hlocks hnh (hl.1.trans hml.symm) d_NW_remove_12 d_NW_remove_15 d_NW_remove_16 d_NW_remove_19 (Nat.le_of_ble_eq_true rfl) (Nat.le_of_ble_eq_true rfl) (Nat.le_of_ble_eq_true rfl) (Nat.le_of_ble_eq_true rfl) (Nat.le_of_ble_eq_true rfl) (Nat.le_of_ble_eq_true rfl) hS.2.2 (nx_thq hP hD hS)

set_option maxHeartbeats 4000000 in
set_option maxRecDepth 100000 in
theorem c_NW_near_bad (l : Launch) (hlt : l.stackTraces = false) (dC : Nat → ClassId) (dI : Nat → Nat → Nat) (sz : Nat) (oN oI oT oW oR oP oM oE : Nat) (aI ni aT nt : Nat) (q : Int32) (hni : ni ≤ 60) (hb0 : q < 0 ∨ nI 3 < q ∨ ni = 0) : nx_Thr l y_NW_near w_NW_near ({ frames := 6, cells := 1, slots := 6, locals := 81 }) (nx_Pw [.ref oN, .int q] (dC, dI) nw_cls [] [(oN, .inr (0, [.ref oI, .ref oT, .ref oW, .ref oR, .ref oP, .ref oM, .ref oE])), (oI, .inr (6, [.ref aI, .int (nI ni)])), (oT, .inr (6, [.ref aT, .int (nI nt)]))] sz) (nx_Qx "java/lang/IllegalArgumentException" (dC, dI) nw_cls (va_A [(oN, .inr (0, [.ref oI, .ref oT, .ref oW, .ref oR, .ref oP, .ref oM, .ref oE])), (oI, .inr (6, [.ref aI, .int (nI ni)])), (oT, .inr (6, [.ref aT, .int (nI nt)]))] sz) [(oN, .inr (0, [.ref oT, .ref oI, .ref oW, .ref oR, .ref oP, .ref oM, .ref oE])), (oI, .inr (6, [.ref aI, .int (nI ni)])), (oT, .inr (6, [.ref aT, .int (nI 0)]))]) 1 6 (va_A [(oN, .inr (0, [.ref oI, .ref oT, .ref oW, .ref oR, .ref oP, .ref oM, .ref oE])), (oI, .inr (6, [.ref aI, .int (nI ni)])), (oT, .inr (6, [.ref aT, .int (nI nt)]))] sz) := by
  refine nx_ofW (cc := b_NW_near) (maxL := 5) (ret := (some .int)) (by decide) rfl ?_
  intro p e s m args below meth cd s₁ B hml hnh hv0
  obtain ⟨rfl, hsz, hP, hK, hD0, hok⟩ := hv0
  have hx := B.exec
  have hb := B.bytes
  have hr := B.returns
  have hts := atoms_spec (ws := w_NW_near) B.pre
  have hown : s.vm.findClass R_NW = some m.cls := findClass_of_methodNamed B.named
  have hlocks := B.notSynchronized
  have htb : ∀ w ∈ nw_tbl, w.before _ s = true := fun w hw => hts w (List.mem_cons_of_mem _ hw)
  subst hsz
  have hD := hD0.self (sz := s.heap.size)
  generalize hAe : va_A [(oN, .inr (0, [.ref oI, .ref oT, .ref oW, .ref oR, .ref oP, .ref oM, .ref oE])), (oI, .inr (6, [.ref aI, .int (nI ni)])), (oT, .inr (6, [.ref aT, .int (nI nt)]))] s.heap.size = A at hD hok ⊢
  have hA : ∀ q : Nat, s.heap.size ≤ q → A q := fun q h => by rw [← hAe]; exact Or.inr h
  have hS : va_S A s.heap s.heap [] := va_S.rf
  have hl := lv_entry ([.ref oN, .int q]) (n := 5) (Nat.le_of_ble_eq_true rfl)
  rw [lg_entry_eq]
  generalize (lg_sl ([.ref oN, .int q]) ++ List.replicate (5 - (lg_sl ([.ref oN, .int q])).length) Slot.unset).toArray = ls at hl ⊢
  have hl : lv_has ls 5 [(0, .ref oN), (1, .int q)] := hl
  refine lv_aload_n hx hb d_NW_near_0 rfl (lv_at hl 0 rfl) ?_
  refine nw_callr (wc := [(oN, .inr (0, [.ref oI, .ref oT, .ref oW, .ref oR, .ref oP, .ref oM, .ref oE])), (oI, .inr (6, [.ref aI, .int (nI ni)])), (oT, .inr (6, [.ref aT, .int (nI nt)]))]) (wr := []) hP hD hS hA [0, 1, 2] [] rfl rfl (by decide) (by decide) (va_runV (As := []) (rest := []) ⟨hx, hb, hml, hown, hts⟩ (c_NW_take l dC dI _ oN oI oT oW oR oP oM oE aI ni aT nt) (cwV (C := R_NW) 0 hts (nw_GV (nw_m 60 rfl) (nw_m 61 rfl) (nw_m 62 rfl) (nw_m 43 rfl) (nw_m 63 rfl)) rfl rfl rfl (by decide +kernel) ⟨Nat.le_of_ble_eq_true rfl, Nat.le_of_ble_eq_true rfl⟩) (nw_prewV (q0 := 0) (ci := 0) (q := (R_NW, F_NW, 7)) hK hP hD [0, 1, 2] [] (by decide) rfl rfl rfl rfl) rfl rfl hl.1 rfl (lv_room (Nat.le_of_ble_eq_true rfl)) d_NW_near_1 ⟨Nat.le_of_ble_eq_true rfl, Nat.le_of_ble_eq_true rfl⟩) (fun r _ H locs hw hP hD hS => ?_)
  replace hP : va_P (dC, dI) nw_cls [(oN, .inr (0, [.ref oT, .ref oI, .ref oW, .ref oR, .ref oP, .ref oM, .ref oE])), (oI, .inr (6, [.ref aI, .int (nI ni)])), (oT, .inr (6, [.ref aT, .int (nI 0)]))] H := hP
  replace hD : va_D A [(oN, .inr (0, [.ref oT, .ref oI, .ref oW, .ref oR, .ref oP, .ref oM, .ref oE])), (oI, .inr (6, [.ref aI, .int (nI ni)])), (oT, .inr (6, [.ref aT, .int (nI 0)]))] := hD
  have hw := hw.symm
  subst hw
  refine lv_astore_n hx hb d_NW_near_4 rfl hl (by decide) rfl (fun ls hl => ?_)
  replace hl : lv_has ls 5 [(2, .ref oI), (0, .ref oN), (1, .int q)] := hl
  refine lv_iload_n hx hb d_NW_near_5 rfl (lv_at hl 2 rfl) ?_
  refine lv_if_lt hx hb d_NW_near_6 (tgt := 21) (by decide) (fun a1 => ?_) (fun a1 => ?_)
  · exact nx_throw hx hb hlt (own := R_NW) (cls := "java/lang/IllegalArgumentException") (names := nx_names) (ik := 58) (ic := 60) hown (by decide +kernel) (by decide +kernel) (fun U hU => va_tabs rfl hU.symm (hts _ (nw_mc 45 rfl))) (fun U hU => va_tabs rfl hU.symm (hts _ (nw_mc 46 rfl))) (fun U hU hH w hw => (hok.kept hS.2.1).words htb hU hH w (List.mem_append_left _ hw)) hlocks hnh (hl.1.trans hml.symm) d_NW_near_21 d_NW_near_24 d_NW_near_25 d_NW_near_28 (Nat.le_of_ble_eq_true rfl) (Nat.le_of_ble_eq_true rfl) (Nat.le_of_ble_eq_true rfl) (Nat.le_of_ble_eq_true rfl) (Nat.le_of_ble_eq_true rfl) (Nat.le_of_ble_eq_true rfl) hS.2.2 (nx_thq hP hD hS)
  · refine lv_iload_n hx hb d_NW_near_9 rfl (lv_at hl 2 rfl) ?_
    refine lv_iconst (v := nI 3) hx hb d_NW_near_10 (by decide) ?_
    refine lv_icmp_gt hx hb d_NW_near_11 (tgt := 21) (by decide) (fun a2 => ?_) (fun a2 => ?_)
    · exact nx_throw hx hb hlt (own := R_NW) (cls := "java/lang/IllegalArgumentException") (names := nx_names) (ik := 58) (ic := 60) hown (by decide +kernel) (by decide +kernel) (fun U hU => va_tabs rfl hU.symm (hts _ (nw_mc 45 rfl))) (fun U hU => va_tabs rfl hU.symm (hts _ (nw_mc 46 rfl))) (fun U hU hH w hw => (hok.kept hS.2.1).words htb hU hH w (List.mem_append_left _ hw)) hlocks hnh (hl.1.trans hml.symm) d_NW_near_21 d_NW_near_24 d_NW_near_25 d_NW_near_28 (Nat.le_of_ble_eq_true rfl) (Nat.le_of_ble_eq_true rfl) (Nat.le_of_ble_eq_true rfl) (Nat.le_of_ble_eq_true rfl) (Nat.le_of_ble_eq_true rfl) (Nat.le_of_ble_eq_true rfl) hS.2.2 (nx_thq hP hD hS)
    · refine lv_aload_n hx hb d_NW_near_14 rfl (lv_at hl 0 rfl) ?_
      refine vp_callSi (va_Run.run (va_runV (As := []) (rest := []) ⟨hx, hb, hml, hown, hts⟩ (c_Row_isEmpty l dC dI oI aI ni (by omega)) (cwV (C := R_Row) 0 hts (nw_GV (nw_m 64 rfl) (nw_m 65 rfl) (nw_m 66 rfl) (nw_m 5 rfl) (nw_m 67 rfl)) rfl rfl rfl (by decide +kernel) ⟨Nat.le_of_ble_eq_true rfl, Nat.le_of_ble_eq_true rfl⟩) (nw_preV (q0 := 1) (ci := 6) (q := (R_Row, F_Row, 2)) hK hP [1] [] rfl rfl rfl rfl) rfl rfl hl.1 rfl (lv_room (Nat.le_of_ble_eq_true rfl)) d_NW_near_15 ⟨Nat.le_of_ble_eq_true rfl, Nat.le_of_ble_eq_true rfl⟩)) (fun r her => ?_)
      subst her
      have hz : ni = 0 := (hb0.resolve_left a1).resolve_left a2
      refine nw_ti (y := nI 1) (congrArg nI (by rw [if_pos hz])) ?_
      refine lv_if_eq hx hb d_NW_near_18 (tgt := 29) (by decide) (fun a3 => ?_) (fun a3 => ?_)
      · rw [nw_eq0 (by omega)] at a3
        omega
      · exact nx_throw hx hb hlt (own := R_NW) (cls := "java/lang/IllegalArgumentException") (names := nx_names) (ik := 58) (ic := 60) hown (by decide +kernel) (by decide +kernel) (fun U hU => va_tabs rfl hU.symm (hts _ (nw_mc 45 rfl))) (fun U hU => va_tabs rfl hU.symm (hts _ (nw_mc 46 rfl))) (fun U hU hH w hw => (hok.kept hS.2.1).words htb hU hH w (List.mem_append_left _ hw)) hlocks hnh (hl.1.trans hml.symm) d_NW_near_21 d_NW_near_24 d_NW_near_25 d_NW_near_28 (Nat.le_of_ble_eq_true rfl) (Nat.le_of_ble_eq_true rfl) (Nat.le_of_ble_eq_true rfl) (Nat.le_of_ble_eq_true rfl) (Nat.le_of_ble_eq_true rfl) (Nat.le_of_ble_eq_true rfl) hS.2.2 (nx_thq hP hD hS)

set_option maxHeartbeats 4000000 in
set_option maxRecDepth 100000 in
theorem c_NW_letter_bad (l : Launch) (hlt : l.stackTraces = false) (dC : Nat → ClassId) (dI : Nat → Nat → Nat) (sz : Nat) (oN oI oT oW oR oP oM oE : Nat) (aC aL aS rn : Nat) (q k : Int32) (hb0 : (q < 0 ∨ nI rn ≤ q) ∨ k < 0) : nx_Thr l y_NW_letter w_NW_letter ({ frames := 6, cells := 1, slots := 6, locals := 81 }) (nx_Pw [.ref oN, .int q, .int k] (dC, dI) nw_cls [] [(oN, .inr (0, [.ref oI, .ref oT, .ref oW, .ref oR, .ref oP, .ref oM, .ref oE])), (oR, .inr (5, [.ref aC, .ref aL, .ref aS, .int (nI rn)]))] sz) (nx_Qx "java/lang/IllegalArgumentException" (dC, dI) nw_cls (va_A [(oN, .inr (0, [.ref oI, .ref oT, .ref oW, .ref oR, .ref oP, .ref oM, .ref oE])), (oR, .inr (5, [.ref aC, .ref aL, .ref aS, .int (nI rn)]))] sz) [(oN, .inr (0, [.ref oI, .ref oT, .ref oW, .ref oR, .ref oP, .ref oM, .ref oE])), (oR, .inr (5, [.ref aC, .ref aL, .ref aS, .int (nI rn)]))]) 1 6 (va_A [(oN, .inr (0, [.ref oI, .ref oT, .ref oW, .ref oR, .ref oP, .ref oM, .ref oE])), (oR, .inr (5, [.ref aC, .ref aL, .ref aS, .int (nI rn)]))] sz) := by
  refine nx_ofW (cc := b_NW_letter) (maxL := 3) (ret := (some .int)) (by decide) rfl ?_
  intro p e s m args below meth cd s₁ B hml hnh hv0
  obtain ⟨rfl, hsz, hP, hK, hD0, hok⟩ := hv0
  have hx := B.exec
  have hb := B.bytes
  have hr := B.returns
  have hts := atoms_spec (ws := w_NW_letter) B.pre
  have hown : s.vm.findClass R_NW = some m.cls := findClass_of_methodNamed B.named
  have hlocks := B.notSynchronized
  have htb : ∀ w ∈ nw_tbl, w.before _ s = true := fun w hw => hts w (List.mem_cons_of_mem _ hw)
  subst hsz
  have hD := hD0.self (sz := s.heap.size)
  generalize hAe : va_A [(oN, .inr (0, [.ref oI, .ref oT, .ref oW, .ref oR, .ref oP, .ref oM, .ref oE])), (oR, .inr (5, [.ref aC, .ref aL, .ref aS, .int (nI rn)]))] s.heap.size = A at hD hok ⊢
  have hA : ∀ q : Nat, s.heap.size ≤ q → A q := fun q h => by rw [← hAe]; exact Or.inr h
  have hS : va_S A s.heap s.heap [] := va_S.rf
  have hl := lv_entry ([.ref oN, .int q, .int k]) (n := 3) (Nat.le_of_ble_eq_true rfl)
  rw [lg_entry_eq]
  generalize (lg_sl ([.ref oN, .int q, .int k]) ++ List.replicate (3 - (lg_sl ([.ref oN, .int q, .int k])).length) Slot.unset).toArray = ls at hl ⊢
  have hl : lv_has ls 3 [(0, .ref oN), (1, .int q), (2, .int k)] := hl
  refine lv_aload_n hx hb d_NW_letter_0 rfl (lv_at hl 0 rfl) ?_
  refine va_get (D := (dC, dI)) (ci := 0) (v := .ref oR) (C := R_NW) (T := F_NW) (N := 7) hx hb hts hin_NW hown hK hP 0 rfl rfl 3 (by decide) (hts _ (nw_mc 21 rfl)) (fun _ h9 => h9) rfl d_NW_letter_1 ?_
  refine lv_iload_n hx hb d_NW_letter_4 rfl (lv_at hl 1 rfl) ?_
  refine vp_callSi (va_Run.run (va_runV (As := [.int q]) (rest := []) ⟨hx, hb, hml, hown, hts⟩ (c_Res_has l dC dI oR aC aL aS rn q) (cwV (C := R_Res) 1 hts (nw_GV (nw_m 140 rfl) (nw_m 141 rfl) (nw_m 142 rfl) (nw_m 18 rfl) (nw_m 143 rfl)) rfl rfl rfl (by decide +kernel) ⟨Nat.le_of_ble_eq_true rfl, Nat.le_of_ble_eq_true rfl⟩) (nw_preV (q0 := 1) (ci := 5) (q := (R_Res, F_Res, 4)) hK hP [1] [] rfl rfl rfl rfl) rfl rfl hl.1 rfl (lv_room (Nat.le_of_ble_eq_true rfl)) d_NW_letter_5 ⟨Nat.le_of_ble_eq_true rfl, Nat.le_of_ble_eq_true rfl⟩)) (fun r her => ?_)
  subst her
  by_cases hq : q < 0 ∨ nI rn ≤ q
  · refine nw_ti (y := nI 0) (congrArg nI (by rw [if_pos hq])) ?_
    refine lv_if_eq hx hb d_NW_letter_8 (tgt := 15) (by decide) (fun a1 => ?_) (fun a1 => ?_)
    · exact nx_throw hx hb hlt (own := R_NW) (cls := "java/lang/IllegalArgumentException") (names := nx_names) (ik := 58) (ic := 60) hown (by decide +kernel) (by decide +kernel) (fun U hU => va_tabs rfl hU.symm (hts _ (nw_mc 45 rfl))) (fun U hU => va_tabs rfl hU.symm (hts _ (nw_mc 46 rfl))) (fun U hU hH w hw => (hok.kept hS.2.1).words htb hU hH w (List.mem_append_left _ hw)) hlocks hnh (hl.1.trans hml.symm) d_NW_letter_15 d_NW_letter_18 d_NW_letter_19 d_NW_letter_22 (Nat.le_of_ble_eq_true rfl) (Nat.le_of_ble_eq_true rfl) (Nat.le_of_ble_eq_true rfl) (Nat.le_of_ble_eq_true rfl) (Nat.le_of_ble_eq_true rfl) (Nat.le_of_ble_eq_true rfl) hS.2.2 (nx_thq hP hD hS)
    · rw [nw_eq0 (by omega)] at a1
      omega
  · refine nw_ti (y := nI 1) (congrArg nI (by rw [if_neg hq])) ?_
    refine lv_if_eq hx hb d_NW_letter_8 (tgt := 15) (by decide) (fun a1 => ?_) (fun a1 => ?_)
    · rw [nw_eq0 (by omega)] at a1
      omega
    · refine lv_iload_n hx hb d_NW_letter_11 rfl (lv_at hl 2 rfl) ?_
      refine lv_if_ge hx hb d_NW_letter_12 (tgt := 23) (by decide) (fun a2 => ?_) (fun a2 => ?_)
      · exact absurd (hb0.resolve_left hq) (Int32.not_lt.mpr a2)
      · exact nx_throw hx hb hlt (own := R_NW) (cls := "java/lang/IllegalArgumentException") (names := nx_names) (ik := 58) (ic := 60) hown (by decide +kernel) (by decide +kernel) (fun U hU => va_tabs rfl hU.symm (hts _ (nw_mc 45 rfl))) (fun U hU => va_tabs rfl hU.symm (hts _ (nw_mc 46 rfl))) (fun U hU hH w hw => (hok.kept hS.2.1).words htb hU hH w (List.mem_append_left _ hw)) hlocks hnh (hl.1.trans hml.symm) d_NW_letter_15 d_NW_letter_18 d_NW_letter_19 d_NW_letter_22 (Nat.le_of_ble_eq_true rfl) (Nat.le_of_ble_eq_true rfl) (Nat.le_of_ble_eq_true rfl) (Nat.le_of_ble_eq_true rfl) (Nat.le_of_ble_eq_true rfl) (Nat.le_of_ble_eq_true rfl) hS.2.2 (nx_thq hP hD hS)

set_option maxHeartbeats 4000000 in
set_option maxRecDepth 100000 in
theorem c_NW_distance_bad (l : Launch) (hlt : l.stackTraces = false) (dC : Nat → ClassId) (dI : Nat → Nat → Nat) (sz : Nat) (oN oI oT oW oR oP oM oE : Nat) (aC aL aS rn : Nat) (q : Int32) (hb0 : q < 0 ∨ nI rn ≤ q) : nx_Thr l y_NW_distance w_NW_distance ({ frames := 6, cells := 1, slots := 6, locals := 81 }) (nx_Pw [.ref oN, .int q] (dC, dI) nw_cls [] [(oN, .inr (0, [.ref oI, .ref oT, .ref oW, .ref oR, .ref oP, .ref oM, .ref oE])), (oR, .inr (5, [.ref aC, .ref aL, .ref aS, .int (nI rn)]))] sz) (nx_Qx "java/lang/IllegalArgumentException" (dC, dI) nw_cls (va_A [(oN, .inr (0, [.ref oI, .ref oT, .ref oW, .ref oR, .ref oP, .ref oM, .ref oE])), (oR, .inr (5, [.ref aC, .ref aL, .ref aS, .int (nI rn)]))] sz) [(oN, .inr (0, [.ref oI, .ref oT, .ref oW, .ref oR, .ref oP, .ref oM, .ref oE])), (oR, .inr (5, [.ref aC, .ref aL, .ref aS, .int (nI rn)]))]) 1 6 (va_A [(oN, .inr (0, [.ref oI, .ref oT, .ref oW, .ref oR, .ref oP, .ref oM, .ref oE])), (oR, .inr (5, [.ref aC, .ref aL, .ref aS, .int (nI rn)]))] sz) := by
  refine nx_ofW (cc := b_NW_distance) (maxL := 2) (ret := (some .int)) (by decide) rfl ?_
  intro p e s m args below meth cd s₁ B hml hnh hv0
  obtain ⟨rfl, hsz, hP, hK, hD0, hok⟩ := hv0
  have hx := B.exec
  have hb := B.bytes
  have hr := B.returns
  have hts := atoms_spec (ws := w_NW_distance) B.pre
  have hown : s.vm.findClass R_NW = some m.cls := findClass_of_methodNamed B.named
  have hlocks := B.notSynchronized
  have htb : ∀ w ∈ nw_tbl, w.before _ s = true := fun w hw => hts w (List.mem_cons_of_mem _ hw)
  subst hsz
  have hD := hD0.self (sz := s.heap.size)
  generalize hAe : va_A [(oN, .inr (0, [.ref oI, .ref oT, .ref oW, .ref oR, .ref oP, .ref oM, .ref oE])), (oR, .inr (5, [.ref aC, .ref aL, .ref aS, .int (nI rn)]))] s.heap.size = A at hD hok ⊢
  have hA : ∀ q : Nat, s.heap.size ≤ q → A q := fun q h => by rw [← hAe]; exact Or.inr h
  have hS : va_S A s.heap s.heap [] := va_S.rf
  have hl := lv_entry ([.ref oN, .int q]) (n := 2) (Nat.le_of_ble_eq_true rfl)
  rw [lg_entry_eq]
  generalize (lg_sl ([.ref oN, .int q]) ++ List.replicate (2 - (lg_sl ([.ref oN, .int q])).length) Slot.unset).toArray = ls at hl ⊢
  have hl : lv_has ls 2 [(0, .ref oN), (1, .int q)] := hl
  refine lv_aload_n hx hb d_NW_distance_0 rfl (lv_at hl 0 rfl) ?_
  refine va_get (D := (dC, dI)) (ci := 0) (v := .ref oR) (C := R_NW) (T := F_NW) (N := 7) hx hb hts hin_NW hown hK hP 0 rfl rfl 3 (by decide) (hts _ (nw_mc 21 rfl)) (fun _ h9 => h9) rfl d_NW_distance_1 ?_
  refine lv_iload_n hx hb d_NW_distance_4 rfl (lv_at hl 1 rfl) ?_
  refine vp_callSi (va_Run.run (va_runV (As := [.int q]) (rest := []) ⟨hx, hb, hml, hown, hts⟩ (c_Res_has l dC dI oR aC aL aS rn q) (cwV (C := R_Res) 1 hts (nw_GV (nw_m 140 rfl) (nw_m 141 rfl) (nw_m 142 rfl) (nw_m 18 rfl) (nw_m 143 rfl)) rfl rfl rfl (by decide +kernel) ⟨Nat.le_of_ble_eq_true rfl, Nat.le_of_ble_eq_true rfl⟩) (nw_preV (q0 := 1) (ci := 5) (q := (R_Res, F_Res, 4)) hK hP [1] [] rfl rfl rfl rfl) rfl rfl hl.1 rfl (lv_room (Nat.le_of_ble_eq_true rfl)) d_NW_distance_5 ⟨Nat.le_of_ble_eq_true rfl, Nat.le_of_ble_eq_true rfl⟩)) (fun r her => ?_)
  subst her
  refine nw_ti (y := nI 0) (congrArg nI (by rw [if_pos hb0])) ?_
  refine lv_if_ne hx hb d_NW_distance_8 (tgt := 19) (by decide) (fun a1 => ?_) (fun a1 => ?_)
  · rw [nw_eq0 (by omega)] at a1
    omega
  · exact nx_throw hx hb hlt (own := R_NW) (cls := "java/lang/IllegalArgumentException") (names := nx_names) (ik := 58) (ic := 60) hown (by decide +kernel) (by decide +kernel) (fun U hU => va_tabs rfl hU.symm (hts _ (nw_mc 45 rfl))) (fun U hU => va_tabs rfl hU.symm (hts _ (nw_mc 46 rfl))) (fun U hU hH w hw => (hok.kept hS.2.1).words htb hU hH w (List.mem_append_left _ hw)) hlocks hnh (hl.1.trans hml.symm) d_NW_distance_11 d_NW_distance_14 d_NW_distance_15 d_NW_distance_18 (Nat.le_of_ble_eq_true rfl) (Nat.le_of_ble_eq_true rfl) (Nat.le_of_ble_eq_true rfl) (Nat.le_of_ble_eq_true rfl) (Nat.le_of_ble_eq_true rfl) (Nat.le_of_ble_eq_true rfl) hS.2.2 (nx_thq hP hD hS)

set_option maxHeartbeats 4000000 in
set_option maxRecDepth 100000 in
theorem c_NW_letter (l : Launch) (dC : Nat → ClassId) (dI : Nat → Nat → Nat) (cB cF cI : ClassId) (oN oI oT oW oR oP oM oE : Nat) (aC aL aS rn : Nat) (RL rz : Nat → Nat) (M : Nat → Nat → Nat) (pl : va_W) (j k : Nat) (hj : j < rn) (hk : k < 2 ^ 31) (hrn : rn ≤ 50) (hRL : RL j ≤ 60) : Met l y_NW_letter w_NW_letter ({ frames := 1, cells := 0, slots := 0, locals := 22 }) (nw_Pr [.ref oN, .int (nI j), .int (nI k)] (dC, dI) nw_cls [(cB, .byte), (cF, (.array .byte)), (cI, .int)] ([(oN, .inr (0, [.ref oI, .ref oT, .ref oW, .ref oR, .ref oP, .ref oM, .ref oE])), (oR, .inr (5, [.ref aC, .ref aL, .ref aS, .int (nI rn)])), (aC, nw_ar cF 50 (fun k => some (rz k))), (aL, nw_ai cI 50 RL)] ++ (nw_rb 50 cB 60 rz M ++ pl))) (vp_Si (fun r => r = nI (if k < RL j then M j k else 0))) 0 0 (fun _ => False) := by
  refine Met.ofW (cc := b_NW_letter) (maxL := 3) (ret := (some .int)) (by decide) rfl ?_
  intro p e s m args below meth cd s₁ B hml hv0
  obtain ⟨rfl, hP, hK⟩ := hv0
  have hx := B.exec
  have hb := B.bytes
  have hr := B.returns
  have hts := atoms_spec (ws := w_NW_letter) B.pre
  have hown : s.vm.findClass R_NW = some m.cls := findClass_of_methodNamed B.named
  have hlocks := B.notSynchronized
  have hl := lv_entry ([.ref oN, .int (nI j), .int (nI k)]) (n := 3) (Nat.le_of_ble_eq_true rfl)
  rw [lg_entry_eq]
  generalize (lg_sl ([.ref oN, .int (nI j), .int (nI k)]) ++ List.replicate (3 - (lg_sl ([.ref oN, .int (nI j), .int (nI k)])).length) Slot.unset).toArray = ls at hl ⊢
  have hl : lv_has ls 3 [(0, .ref oN), (1, .int (nI j)), (2, .int (nI k))] := hl
  have hin : ¬ (nI j < 0 ∨ nI rn ≤ nI j) := fun h => h.elim (fun z => nI_pos (by omega) z) (fun z => by rw [nI_leI (by omega) (by omega)] at z; omega)
  refine lv_aload_n hx hb d_NW_letter_0 rfl (lv_at hl 0 rfl) ?_
  refine va_get (D := (dC, dI)) (ci := 0) (v := .ref oR) (C := R_NW) (T := F_NW) (N := 7) hx hb hts hin_NW hown hK hP 0 rfl rfl 3 (by decide) (hts _ (nw_mc 21 rfl)) (fun _ h9 => h9) rfl d_NW_letter_1 ?_
  refine lv_iload_n hx hb d_NW_letter_4 rfl (lv_at hl 1 rfl) ?_
  refine vp_callSi (va_Run.run (va_runV (As := [.int (nI j)]) (rest := []) ⟨hx, hb, hml, hown, hts⟩ (c_Res_has l dC dI oR aC aL aS rn (nI j)) (cwV (C := R_Res) 1 hts (nw_GV (nw_m 140 rfl) (nw_m 141 rfl) (nw_m 142 rfl) (nw_m 18 rfl) (nw_m 143 rfl)) rfl rfl rfl (by decide +kernel) ⟨Nat.le_of_ble_eq_true rfl, Nat.le_of_ble_eq_true rfl⟩) (nw_preV (q0 := 1) (ci := 5) (q := (R_Res, F_Res, 4)) hK hP [1] [] rfl rfl rfl rfl) rfl rfl hl.1 rfl (lv_room (Nat.le_of_ble_eq_true rfl)) d_NW_letter_5 ⟨Nat.le_of_ble_eq_true rfl, Nat.le_of_ble_eq_true rfl⟩)) (fun r her => ?_)
  subst her
  refine nw_ti (y := nI 1) (congrArg nI (by rw [if_neg hin])) ?_
  refine lv_if_eq hx hb d_NW_letter_8 (tgt := 15) (by decide) (fun a1 => ?_) (fun a1 => ?_)
  · rw [nw_eq0 (by omega)] at a1
    omega
  · rw [nw_eq0 (by omega)] at a1
    refine lv_iload_n hx hb d_NW_letter_11 rfl (lv_at hl 2 rfl) ?_
    refine lv_if_ge hx hb d_NW_letter_12 (tgt := 23) (by decide) (fun a2 => ?_) (fun a2 => ?_)
    · rw [nw_0le (by omega)] at a2
      refine lv_aload_n hx hb d_NW_letter_23 rfl (lv_at hl 0 rfl) ?_
      refine va_get (D := (dC, dI)) (ci := 0) (v := .ref oR) (C := R_NW) (T := F_NW) (N := 7) hx hb hts hin_NW hown hK hP 0 rfl rfl 3 (by decide) (hts _ (nw_mc 21 rfl)) (fun _ h9 => h9) rfl d_NW_letter_24 ?_
      refine lv_iload_n hx hb d_NW_letter_27 rfl (lv_at hl 1 rfl) ?_
      refine lv_iload_n hx hb d_NW_letter_28 rfl (lv_at hl 2 rfl) ?_
      refine vp_callSi (va_Run.run (va_runV (As := [.int (nI j), .int (nI k)]) (rest := []) ⟨hx, hb, hml, hown, hts⟩ (c_Res_characterAt l dC dI cB cF cI oR aC aL aS rn RL rz M pl j k (by omega) (by omega) (by omega)) (cwV (C := R_Res) 2 hts (nw_GV (nw_m 144 rfl) (nw_m 145 rfl) (nw_m 146 rfl) (nw_m 18 rfl) (nw_m 147 rfl)) rfl rfl rfl (by decide +kernel) ⟨Nat.le_of_ble_eq_true rfl, Nat.le_of_ble_eq_true rfl⟩) (nw_preVP (q0 := 1) (ci := 5) (q := (R_Res, F_Res, 4)) hK hP [1, 2, 3] [0, 1, 2] rfl rfl rfl rfl) rfl rfl hl.1 rfl (lv_room (Nat.le_of_ble_eq_true rfl)) d_NW_letter_29 ⟨Nat.le_of_ble_eq_true rfl, Nat.le_of_ble_eq_true rfl⟩)) (fun r her => ?_)
      subst her
      exact W.iret (v := nI (if k < RL j then M j k else 0)) hx hb hr (fun t ht hW => ⟨_, rfl, rfl, ht⟩) (fun q hq => by cases hq) d_NW_letter_32
    · rw [nw_0le (by omega)] at a2
      omega

set_option maxHeartbeats 4000000 in
set_option maxRecDepth 100000 in
theorem c_NW_distance (l : Launch) (dC : Nat → ClassId) (dI : Nat → Nat → Nat) (cI : ClassId) (oN oI oT oW oR oP oM oE : Nat) (aC aL aS rn : Nat) (RD : Nat → Nat) (j : Nat) (hj : j < rn) (hrn : rn ≤ 50) : Met l y_NW_distance w_NW_distance ({ frames := 1, cells := 0, slots := 0, locals := 21 }) (nw_Pr [.ref oN, .int (nI j)] (dC, dI) nw_cls [(cI, .int)] [(oN, .inr (0, [.ref oI, .ref oT, .ref oW, .ref oR, .ref oP, .ref oM, .ref oE])), (oR, .inr (5, [.ref aC, .ref aL, .ref aS, .int (nI rn)])), (aS, nw_ai cI 50 RD)]) (vp_Si (fun r => r = nI (RD j))) 0 0 (fun _ => False) := by
  refine Met.ofW (cc := b_NW_distance) (maxL := 2) (ret := (some .int)) (by decide) rfl ?_
  intro p e s m args below meth cd s₁ B hml hv0
  obtain ⟨rfl, hP, hK⟩ := hv0
  have hx := B.exec
  have hb := B.bytes
  have hr := B.returns
  have hts := atoms_spec (ws := w_NW_distance) B.pre
  have hown : s.vm.findClass R_NW = some m.cls := findClass_of_methodNamed B.named
  have hlocks := B.notSynchronized
  have hl := lv_entry ([.ref oN, .int (nI j)]) (n := 2) (Nat.le_of_ble_eq_true rfl)
  rw [lg_entry_eq]
  generalize (lg_sl ([.ref oN, .int (nI j)]) ++ List.replicate (2 - (lg_sl ([.ref oN, .int (nI j)])).length) Slot.unset).toArray = ls at hl ⊢
  have hl : lv_has ls 2 [(0, .ref oN), (1, .int (nI j))] := hl
  have hin : ¬ (nI j < 0 ∨ nI rn ≤ nI j) := fun h => h.elim (fun z => nI_pos (by omega) z) (fun z => by rw [nI_leI (by omega) (by omega)] at z; omega)
  refine lv_aload_n hx hb d_NW_distance_0 rfl (lv_at hl 0 rfl) ?_
  refine va_get (D := (dC, dI)) (ci := 0) (v := .ref oR) (C := R_NW) (T := F_NW) (N := 7) hx hb hts hin_NW hown hK hP 0 rfl rfl 3 (by decide) (hts _ (nw_mc 21 rfl)) (fun _ h9 => h9) rfl d_NW_distance_1 ?_
  refine lv_iload_n hx hb d_NW_distance_4 rfl (lv_at hl 1 rfl) ?_
  refine vp_callSi (va_Run.run (va_runV (As := [.int (nI j)]) (rest := []) ⟨hx, hb, hml, hown, hts⟩ (c_Res_has l dC dI oR aC aL aS rn (nI j)) (cwV (C := R_Res) 1 hts (nw_GV (nw_m 140 rfl) (nw_m 141 rfl) (nw_m 142 rfl) (nw_m 18 rfl) (nw_m 143 rfl)) rfl rfl rfl (by decide +kernel) ⟨Nat.le_of_ble_eq_true rfl, Nat.le_of_ble_eq_true rfl⟩) (nw_preV (q0 := 1) (ci := 5) (q := (R_Res, F_Res, 4)) hK hP [1] [] rfl rfl rfl rfl) rfl rfl hl.1 rfl (lv_room (Nat.le_of_ble_eq_true rfl)) d_NW_distance_5 ⟨Nat.le_of_ble_eq_true rfl, Nat.le_of_ble_eq_true rfl⟩)) (fun r her => ?_)
  subst her
  refine nw_ti (y := nI 1) (congrArg nI (by rw [if_neg hin])) ?_
  refine lv_if_ne hx hb d_NW_distance_8 (tgt := 19) (by decide) (fun a1 => ?_) (fun a1 => ?_)
  · rw [nw_eq0 (by omega)] at a1
    refine lv_aload_n hx hb d_NW_distance_19 rfl (lv_at hl 0 rfl) ?_
    refine va_get (D := (dC, dI)) (ci := 0) (v := .ref oR) (C := R_NW) (T := F_NW) (N := 7) hx hb hts hin_NW hown hK hP 0 rfl rfl 3 (by decide) (hts _ (nw_mc 21 rfl)) (fun _ h9 => h9) rfl d_NW_distance_20 ?_
    refine lv_iload_n hx hb d_NW_distance_23 rfl (lv_at hl 1 rfl) ?_
    refine vp_callSi (va_Run.run (va_runV (As := [.int (nI j)]) (rest := []) ⟨hx, hb, hml, hown, hts⟩ (c_Res_stepsOf l dC dI cI oR aC aL aS rn RD j (by omega)) (cwV (C := R_Res) 1 hts (nw_GV (nw_m 148 rfl) (nw_m 149 rfl) (nw_m 150 rfl) (nw_m 18 rfl) (nw_m 151 rfl)) rfl rfl rfl (by decide +kernel) ⟨Nat.le_of_ble_eq_true rfl, Nat.le_of_ble_eq_true rfl⟩) (nw_preV (q0 := 1) (ci := 5) (q := (R_Res, F_Res, 4)) hK hP [1, 2] [0] rfl rfl rfl rfl) rfl rfl hl.1 rfl (lv_room (Nat.le_of_ble_eq_true rfl)) d_NW_distance_24 ⟨Nat.le_of_ble_eq_true rfl, Nat.le_of_ble_eq_true rfl⟩)) (fun r her => ?_)
    subst her
    exact W.iret (v := nI (RD j)) hx hb hr (fun t ht hW => ⟨_, rfl, rfl, ht⟩) (fun q hq => by cases hq) d_NW_distance_27
  · rw [nw_eq0 (by omega)] at a1
    omega

set_option maxHeartbeats 4000000 in
set_option maxRecDepth 100000 in
theorem c_NW_add_old (l : Launch) (dC : Nat → ClassId) (dI : Nat → Nat → Nat) (sz : Nat) (cB cI : ClassId) (oN oI oT oW oR oP oM oE : Nat) (aI ni : Nat) (ci : Nat → Nat) (aT nt : Nat) (aW bW wn : Nat) (C st : Nat → Nat) (hwn : wn ≤ 1000) (hm : ∀ i, i < wn → st i ≤ st (i + 1) ∧ st (i + 1) ≤ 12000 ∧ st (i + 1) - st i ≤ 60) (hni : ni ≤ 60) (hC : ∀ j, C j < 127) (hci : ∀ j, ci j < 127) (hmono : ∀ i j, i < j → j < wn → nw_cm (fun k => C (st j + k)) (st (j + 1) - st j) ci ni < 0 → nw_cm (fun k => C (st i + k)) (st (i + 1) - st i) ci ni < 0) (pl : Nat) (hpl0 : pl = nw_cnt (fun i => nw_cm (fun k => C (st i + k)) (st (i + 1) - st i) ci ni < 0) wn) (h1 : 1 ≤ ni) (ho : pl < wn ∧ nw_cm (fun k => C (st pl + k)) (st (pl + 1) - st pl) ci ni = 0) : Met l y_NW_add w_NW_add ({ frames := 3, cells := 0, slots := 0, locals := 70 }) (nw_Pw [.ref oN] (dC, dI) nw_cls [(cB, .byte), (cI, .int)] [(oN, .inr (0, [.ref oI, .ref oT, .ref oW, .ref oR, .ref oP, .ref oM, .ref oE])), (oI, .inr (6, [.ref aI, .int (nI ni)])), (oT, .inr (6, [.ref aT, .int (nI nt)])), (aI, nw_ai cB 60 ci), (oW, .inr (7, [.ref aW, .ref bW, .int (nI wn)])), (aW, nw_ai cB 12000 C), (bW, nw_ai cI 1001 st)] sz) (va_Qi (fun (r : Int32) (_ : Unit) => r = nI wn) (nw_B (dC, dI) nw_cls (va_A [(oN, .inr (0, [.ref oI, .ref oT, .ref oW, .ref oR, .ref oP, .ref oM, .ref oE])), (oI, .inr (6, [.ref aI, .int (nI ni)])), (oT, .inr (6, [.ref aT, .int (nI nt)])), (aI, nw_ai cB 60 ci), (oW, .inr (7, [.ref aW, .ref bW, .int (nI wn)])), (aW, nw_ai cB 12000 C), (bW, nw_ai cI 1001 st)] sz) (fun _ : Unit => [(oN, .inr (0, [.ref oT, .ref oI, .ref oW, .ref oR, .ref oP, .ref oM, .ref oE])), (oI, .inr (6, [.ref aI, .int (nI ni)])), (oT, .inr (6, [.ref aT, .int (nI 0)])), (aI, nw_ai cB 60 ci), (oW, .inr (7, [.ref aW, .ref bW, .int (nI wn)])), (aW, nw_ai cB 12000 C), (bW, nw_ai cI 1001 st)])) (va_A [(oN, .inr (0, [.ref oI, .ref oT, .ref oW, .ref oR, .ref oP, .ref oM, .ref oE])), (oI, .inr (6, [.ref aI, .int (nI ni)])), (oT, .inr (6, [.ref aT, .int (nI nt)])), (aI, nw_ai cB 60 ci), (oW, .inr (7, [.ref aW, .ref bW, .int (nI wn)])), (aW, nw_ai cB 12000 C), (bW, nw_ai cI 1001 st)] sz)) 0 0 (va_A [(oN, .inr (0, [.ref oI, .ref oT, .ref oW, .ref oR, .ref oP, .ref oM, .ref oE])), (oI, .inr (6, [.ref aI, .int (nI ni)])), (oT, .inr (6, [.ref aT, .int (nI nt)])), (aI, nw_ai cB 60 ci), (oW, .inr (7, [.ref aW, .ref bW, .int (nI wn)])), (aW, nw_ai cB 12000 C), (bW, nw_ai cI 1001 st)] sz) := by
  refine Met.ofW (cc := b_NW_add) (maxL := 3) (ret := (some .int)) (by decide) rfl ?_
  intro p e s m args below meth cd s₁ B hml hv0
  obtain ⟨rfl, hsz, hP, hK, hD0⟩ := hv0
  have hx := B.exec
  have hb := B.bytes
  have hr := B.returns
  have hts := atoms_spec (ws := w_NW_add) B.pre
  have hown : s.vm.findClass R_NW = some m.cls := findClass_of_methodNamed B.named
  have hlocks := B.notSynchronized
  subst hsz
  have hD := hD0.self (sz := s.heap.size)
  generalize hAe : va_A [(oN, .inr (0, [.ref oI, .ref oT, .ref oW, .ref oR, .ref oP, .ref oM, .ref oE])), (oI, .inr (6, [.ref aI, .int (nI ni)])), (oT, .inr (6, [.ref aT, .int (nI nt)])), (aI, nw_ai cB 60 ci), (oW, .inr (7, [.ref aW, .ref bW, .int (nI wn)])), (aW, nw_ai cB 12000 C), (bW, nw_ai cI 1001 st)] s.heap.size = A at hD ⊢
  have hA : ∀ q : Nat, s.heap.size ≤ q → A q := fun q h => by rw [← hAe]; exact Or.inr h
  have hS : va_S A s.heap s.heap [] := va_S.rf
  have hl := lv_entry ([.ref oN]) (n := 3) (Nat.le_of_ble_eq_true rfl)
  rw [lg_entry_eq]
  generalize (lg_sl ([.ref oN]) ++ List.replicate (3 - (lg_sl ([.ref oN])).length) Slot.unset).toArray = ls at hl ⊢
  have hl : lv_has ls 3 [(0, .ref oN)] := hl
  refine lv_aload_n hx hb d_NW_add_0 rfl (lv_at hl 0 rfl) ?_
  refine nw_callr (wc := [(oN, .inr (0, [.ref oI, .ref oT, .ref oW, .ref oR, .ref oP, .ref oM, .ref oE])), (oI, .inr (6, [.ref aI, .int (nI ni)])), (oT, .inr (6, [.ref aT, .int (nI nt)]))]) (wr := [(aI, nw_ai cB 60 ci), (oW, .inr (7, [.ref aW, .ref bW, .int (nI wn)])), (aW, nw_ai cB 12000 C), (bW, nw_ai cI 1001 st)]) hP hD hS hA [0, 1, 2] [3, 4, 5, 6] rfl rfl (by decide) (by decide) (va_runV (As := []) (rest := []) ⟨hx, hb, hml, hown, hts⟩ (c_NW_take l dC dI _ oN oI oT oW oR oP oM oE aI ni aT nt) (cwV (C := R_NW) 0 hts (nw_GV (nw_m 60 rfl) (nw_m 61 rfl) (nw_m 62 rfl) (nw_m 43 rfl) (nw_m 63 rfl)) rfl rfl rfl (by decide +kernel) ⟨Nat.le_of_ble_eq_true rfl, Nat.le_of_ble_eq_true rfl⟩) (nw_prewV (q0 := 0) (ci := 0) (q := (R_NW, F_NW, 7)) hK hP hD [0, 1, 2] [] (by decide) rfl rfl rfl rfl) rfl rfl hl.1 rfl (lv_room (Nat.le_of_ble_eq_true rfl)) d_NW_add_1 ⟨Nat.le_of_ble_eq_true rfl, Nat.le_of_ble_eq_true rfl⟩) (fun r _ H locs hw hP hD hS => ?_)
  replace hP : va_P (dC, dI) nw_cls [(aI, nw_ai cB 60 ci), (oW, .inr (7, [.ref aW, .ref bW, .int (nI wn)])), (aW, nw_ai cB 12000 C), (bW, nw_ai cI 1001 st), (oN, .inr (0, [.ref oT, .ref oI, .ref oW, .ref oR, .ref oP, .ref oM, .ref oE])), (oI, .inr (6, [.ref aI, .int (nI ni)])), (oT, .inr (6, [.ref aT, .int (nI 0)]))] H := hP
  replace hD : va_D A [(aI, nw_ai cB 60 ci), (oW, .inr (7, [.ref aW, .ref bW, .int (nI wn)])), (aW, nw_ai cB 12000 C), (bW, nw_ai cI 1001 st), (oN, .inr (0, [.ref oT, .ref oI, .ref oW, .ref oR, .ref oP, .ref oM, .ref oE])), (oI, .inr (6, [.ref aI, .int (nI ni)])), (oT, .inr (6, [.ref aT, .int (nI 0)]))] := hD
  have hw := hw.symm
  subst hw
  have hP := hP.sub (ws' := [(oN, .inr (0, [.ref oT, .ref oI, .ref oW, .ref oR, .ref oP, .ref oM, .ref oE])), (oI, .inr (6, [.ref aI, .int (nI ni)])), (oT, .inr (6, [.ref aT, .int (nI 0)])), (aI, nw_ai cB 60 ci), (oW, .inr (7, [.ref aW, .ref bW, .int (nI wn)])), (aW, nw_ai cB 12000 C), (bW, nw_ai cI 1001 st)]) [4, 5, 6, 0, 1, 2, 3] rfl
  have hD := hD.sub (ws' := [(oN, .inr (0, [.ref oT, .ref oI, .ref oW, .ref oR, .ref oP, .ref oM, .ref oE])), (oI, .inr (6, [.ref aI, .int (nI ni)])), (oT, .inr (6, [.ref aT, .int (nI 0)])), (aI, nw_ai cB 60 ci), (oW, .inr (7, [.ref aW, .ref bW, .int (nI wn)])), (aW, nw_ai cB 12000 C), (bW, nw_ai cI 1001 st)]) [4, 5, 6, 0, 1, 2, 3] (by decide) rfl
  refine lv_astore_n hx hb d_NW_add_4 rfl hl (by decide) rfl (fun ls hl => ?_)
  replace hl : lv_has ls 3 [(1, .ref oI), (0, .ref oN)] := hl
  refine lv_aload_n hx hb d_NW_add_5 rfl (lv_at hl 0 rfl) ?_
  refine vp_callSi (va_Run.run (va_runV (As := []) (rest := []) ⟨hx, hb, hml, hown, hts⟩ (c_Row_isEmpty l dC dI oI aI ni (by omega)) (cwV (C := R_Row) 0 hts (nw_GV (nw_m 64 rfl) (nw_m 65 rfl) (nw_m 66 rfl) (nw_m 5 rfl) (nw_m 67 rfl)) rfl rfl rfl (by decide +kernel) ⟨Nat.le_of_ble_eq_true rfl, Nat.le_of_ble_eq_true rfl⟩) (nw_preV (q0 := 1) (ci := 6) (q := (R_Row, F_Row, 2)) hK hP [1] [] rfl rfl rfl rfl) rfl rfl hl.1 rfl (lv_room (Nat.le_of_ble_eq_true rfl)) d_NW_add_6 ⟨Nat.le_of_ble_eq_true rfl, Nat.le_of_ble_eq_true rfl⟩)) (fun r her => ?_)
  subst her
  refine nw_ti (y := nI 0) (congrArg nI (by rw [if_neg (by omega)])) ?_
  refine lv_if_eq hx hb d_NW_add_9 (tgt := 20) (by decide) (fun a1 => ?_) (fun a1 => ?_)
  · rw [nw_eq0 (by omega)] at a1
    refine lv_aload_n hx hb d_NW_add_20 rfl (lv_at hl 1 rfl) ?_
    refine va_get (D := (dC, dI)) (ci := 0) (v := .ref oW) (C := R_NW) (T := F_NW) (N := 7) hx hb hts hin_NW hown hK hP 0 rfl rfl 2 (by decide) (hts _ (nw_mc 15 rfl)) (fun _ h9 => h9) rfl d_NW_add_21 ?_
    refine lv_aload_n hx hb d_NW_add_24 rfl (lv_at hl 0 rfl) ?_
    refine vp_callSi (va_Run.run (va_runV (As := [.ref oI]) (rest := []) ⟨hx, hb, hml, hown, hts⟩ (c_WL_placeOf l dC dI cB cI oW aW bW wn C st oI aI ni ci hwn hni hm (fun j => Nat.lt_trans (hC j) (by decide)) (fun j => Nat.lt_trans (hci j) (by decide)) hmono) (cwV (C := R_WL) 1 hts (nw_GV (nw_m 68 rfl) (nw_m 69 rfl) (nw_m 70 rfl) (nw_m 12 rfl) (nw_m 71 rfl)) rfl rfl rfl (by decide +kernel) ⟨Nat.le_of_ble_eq_true rfl, Nat.le_of_ble_eq_true rfl⟩) (nw_preV (q0 := 4) (ci := 7) (q := (R_WL, F_WL, 3)) hK hP [4, 5, 6, 1, 3] [0, 1] rfl rfl rfl rfl) rfl rfl hl.1 rfl (lv_room (Nat.le_of_ble_eq_true rfl)) d_NW_add_25 ⟨Nat.le_of_ble_eq_true rfl, Nat.le_of_ble_eq_true rfl⟩)) (fun r her => ?_)
    obtain ⟨p0, rfl, hp1, hp2, hp3⟩ := her
    have hpl : p0 = nw_cnt (fun i => nw_cm (fun k => C (st i + k)) (st (i + 1) - st i) ci ni < 0) wn := (nw_cnt_cut hp1 hp2 hp3).symm
    have hpp : p0 = pl := hpl.trans hpl0.symm
    subst hpp
    refine lv_istore_n hx hb d_NW_add_28 rfl hl (by decide) rfl (fun ls hl => ?_)
    replace hl : lv_has ls 3 [(2, .int (nI p0)), (1, .ref oI), (0, .ref oN)] := hl
    refine lv_aload_n hx hb d_NW_add_29 rfl (lv_at hl 2 rfl) ?_
    refine va_get (D := (dC, dI)) (ci := 0) (v := .ref oW) (C := R_NW) (T := F_NW) (N := 7) hx hb hts hin_NW hown hK hP 0 rfl rfl 2 (by decide) (hts _ (nw_mc 15 rfl)) (fun _ h9 => h9) rfl d_NW_add_30 ?_
    refine lv_iload_n hx hb d_NW_add_33 rfl (lv_at hl 0 rfl) ?_
    refine lv_aload_n hx hb d_NW_add_34 rfl (lv_at hl 1 rfl) ?_
    refine vp_callSi (va_Run.run (va_runV (As := [.int (nI p0), .ref oI]) (rest := []) ⟨hx, hb, hml, hown, hts⟩ (c_WL_isAt l dC dI cB cI oW aW bW wn C st oI aI ni ci p0 (by omega) (by omega) (fun h => hm _ h) (by omega) (fun j => Nat.lt_trans (hC j) (by decide)) (fun j => Nat.lt_trans (hci j) (by decide))) (cwV (C := R_WL) 2 hts (nw_GV (nw_m 72 rfl) (nw_m 73 rfl) (nw_m 74 rfl) (nw_m 12 rfl) (nw_m 75 rfl)) rfl rfl rfl (by decide +kernel) ⟨Nat.le_of_ble_eq_true rfl, Nat.le_of_ble_eq_true rfl⟩) (nw_preV (q0 := 4) (ci := 7) (q := (R_WL, F_WL, 3)) hK hP [4, 5, 6, 1, 3] [0, 1] rfl rfl rfl rfl) rfl rfl hl.1 rfl (lv_room (Nat.le_of_ble_eq_true rfl)) d_NW_add_35 ⟨Nat.le_of_ble_eq_true rfl, Nat.le_of_ble_eq_true rfl⟩)) (fun r her => ?_)
    rcases her with ⟨rfl, -⟩ | ⟨-, hn9⟩
    · refine lv_if_eq hx hb d_NW_add_38 (tgt := 49) (by decide) (fun a2 => ?_) (fun a2 => ?_)
      · rw [nw_eq0 (by omega)] at a2
        omega
      · rw [nw_eq0 (by omega)] at a2
        refine lv_aload_n hx hb d_NW_add_41 rfl (lv_at hl 2 rfl) ?_
        refine va_get (D := (dC, dI)) (ci := 0) (v := .ref oW) (C := R_NW) (T := F_NW) (N := 7) hx hb hts hin_NW hown hK hP 0 rfl rfl 2 (by decide) (hts _ (nw_mc 15 rfl)) (fun _ h9 => h9) rfl d_NW_add_42 ?_
        refine vp_callSi (va_Run.run (va_runV (As := []) (rest := []) ⟨hx, hb, hml, hown, hts⟩ (c_WL_size l dC dI oW aW bW wn) (cwV (C := R_WL) 0 hts (nw_GV (nw_m 76 rfl) (nw_m 77 rfl) (nw_m 78 rfl) (nw_m 12 rfl) (nw_m 79 rfl)) rfl rfl rfl (by decide +kernel) ⟨Nat.le_of_ble_eq_true rfl, Nat.le_of_ble_eq_true rfl⟩) (nw_preV (q0 := 4) (ci := 7) (q := (R_WL, F_WL, 3)) hK hP [4] [] rfl rfl rfl rfl) rfl rfl hl.1 rfl (lv_room (Nat.le_of_ble_eq_true rfl)) d_NW_add_45 ⟨Nat.le_of_ble_eq_true rfl, Nat.le_of_ble_eq_true rfl⟩)) (fun r her => ?_)
        subst her
        exact W.iret (v := nI wn) hx hb hr (fun t ht hW => ⟨⟨_, (), rfl, rfl, by rw [ht]; exact hP, hD⟩, hS.F ht⟩) hS.2.2 d_NW_add_48
    · exact absurd ho hn9
  · rw [nw_eq0 (by omega)] at a1
    omega

set_option maxHeartbeats 4000000 in
set_option maxRecDepth 100000 in
theorem c_NW_add_new (l : Launch) (dC : Nat → ClassId) (dI : Nat → Nat → Nat) (sz : Nat) (cB cI : ClassId) (oN oI oT oW oR oP oM oE : Nat) (aI ni : Nat) (ci : Nat → Nat) (aT nt : Nat) (aW bW wn : Nat) (C st : Nat → Nat) (hwn : wn ≤ 1000) (hm : ∀ i, i < wn → st i ≤ st (i + 1) ∧ st (i + 1) ≤ 12000 ∧ st (i + 1) - st i ≤ 60) (hni : ni ≤ 60) (hC : ∀ j, C j < 127) (hci : ∀ j, ci j < 127) (hmono : ∀ i j, i < j → j < wn → nw_cm (fun k => C (st j + k)) (st (j + 1) - st j) ci ni < 0 → nw_cm (fun k => C (st i + k)) (st (i + 1) - st i) ci ni < 0) (pl : Nat) (hpl0 : pl = nw_cnt (fun i => nw_cm (fun k => C (st i + k)) (st (i + 1) - st i) ci ni < 0) wn) (h1 : 1 ≤ ni) (ho : ¬ (pl < wn ∧ nw_cm (fun k => C (st pl + k)) (st (pl + 1) - st pl) ci ni = 0)) (hw2 : wn < 1000) (hch : st wn + ni ≤ 12000) (hmo : ∀ i j, i ≤ j → j ≤ wn → st i ≤ st j) (hse : st wn ≤ 12000) : Met l y_NW_add w_NW_add ({ frames := 3, cells := 0, slots := 0, locals := 70 }) (nw_Pw [.ref oN] (dC, dI) nw_cls [(cB, .byte), (cI, .int)] [(oN, .inr (0, [.ref oI, .ref oT, .ref oW, .ref oR, .ref oP, .ref oM, .ref oE])), (oI, .inr (6, [.ref aI, .int (nI ni)])), (oT, .inr (6, [.ref aT, .int (nI nt)])), (aI, nw_ai cB 60 ci), (oW, .inr (7, [.ref aW, .ref bW, .int (nI wn)])), (aW, nw_ai cB 12000 C), (bW, nw_ai cI 1001 st)] sz) (va_Qi (fun (r : Int32) (_ : Unit) => r = nI (wn + 1)) (nw_B (dC, dI) nw_cls (va_A [(oN, .inr (0, [.ref oI, .ref oT, .ref oW, .ref oR, .ref oP, .ref oM, .ref oE])), (oI, .inr (6, [.ref aI, .int (nI ni)])), (oT, .inr (6, [.ref aT, .int (nI nt)])), (aI, nw_ai cB 60 ci), (oW, .inr (7, [.ref aW, .ref bW, .int (nI wn)])), (aW, nw_ai cB 12000 C), (bW, nw_ai cI 1001 st)] sz) (fun _ : Unit => [(oN, .inr (0, [.ref oT, .ref oI, .ref oW, .ref oR, .ref oP, .ref oM, .ref oE])), (oI, .inr (6, [.ref aI, .int (nI ni)])), (oT, .inr (6, [.ref aT, .int (nI 0)])), (aI, nw_ai cB 60 ci), (oW, .inr (7, [.ref aW, .ref bW, .int (nI (wn + 1))])), (aW, nw_ai cB 12000 (va_cpy ci (va_cpy C C (st pl) (st pl + ni) (st wn - st pl)) 0 (st pl) ni)), (bW, nw_ai cI 1001 (nw_ins st pl wn ni))])) (va_A [(oN, .inr (0, [.ref oI, .ref oT, .ref oW, .ref oR, .ref oP, .ref oM, .ref oE])), (oI, .inr (6, [.ref aI, .int (nI ni)])), (oT, .inr (6, [.ref aT, .int (nI nt)])), (aI, nw_ai cB 60 ci), (oW, .inr (7, [.ref aW, .ref bW, .int (nI wn)])), (aW, nw_ai cB 12000 C), (bW, nw_ai cI 1001 st)] sz)) 0 0 (va_A [(oN, .inr (0, [.ref oI, .ref oT, .ref oW, .ref oR, .ref oP, .ref oM, .ref oE])), (oI, .inr (6, [.ref aI, .int (nI ni)])), (oT, .inr (6, [.ref aT, .int (nI nt)])), (aI, nw_ai cB 60 ci), (oW, .inr (7, [.ref aW, .ref bW, .int (nI wn)])), (aW, nw_ai cB 12000 C), (bW, nw_ai cI 1001 st)] sz) := by
  refine Met.ofW (cc := b_NW_add) (maxL := 3) (ret := (some .int)) (by decide) rfl ?_
  intro p e s m args below meth cd s₁ B hml hv0
  obtain ⟨rfl, hsz, hP, hK, hD0⟩ := hv0
  have hx := B.exec
  have hb := B.bytes
  have hr := B.returns
  have hts := atoms_spec (ws := w_NW_add) B.pre
  have hown : s.vm.findClass R_NW = some m.cls := findClass_of_methodNamed B.named
  have hlocks := B.notSynchronized
  subst hsz
  have hD := hD0.self (sz := s.heap.size)
  generalize hAe : va_A [(oN, .inr (0, [.ref oI, .ref oT, .ref oW, .ref oR, .ref oP, .ref oM, .ref oE])), (oI, .inr (6, [.ref aI, .int (nI ni)])), (oT, .inr (6, [.ref aT, .int (nI nt)])), (aI, nw_ai cB 60 ci), (oW, .inr (7, [.ref aW, .ref bW, .int (nI wn)])), (aW, nw_ai cB 12000 C), (bW, nw_ai cI 1001 st)] s.heap.size = A at hD ⊢
  have hA : ∀ q : Nat, s.heap.size ≤ q → A q := fun q h => by rw [← hAe]; exact Or.inr h
  have hS : va_S A s.heap s.heap [] := va_S.rf
  have hl := lv_entry ([.ref oN]) (n := 3) (Nat.le_of_ble_eq_true rfl)
  rw [lg_entry_eq]
  generalize (lg_sl ([.ref oN]) ++ List.replicate (3 - (lg_sl ([.ref oN])).length) Slot.unset).toArray = ls at hl ⊢
  have hl : lv_has ls 3 [(0, .ref oN)] := hl
  refine lv_aload_n hx hb d_NW_add_0 rfl (lv_at hl 0 rfl) ?_
  refine nw_callr (wc := [(oN, .inr (0, [.ref oI, .ref oT, .ref oW, .ref oR, .ref oP, .ref oM, .ref oE])), (oI, .inr (6, [.ref aI, .int (nI ni)])), (oT, .inr (6, [.ref aT, .int (nI nt)]))]) (wr := [(aI, nw_ai cB 60 ci), (oW, .inr (7, [.ref aW, .ref bW, .int (nI wn)])), (aW, nw_ai cB 12000 C), (bW, nw_ai cI 1001 st)]) hP hD hS hA [0, 1, 2] [3, 4, 5, 6] rfl rfl (by decide) (by decide) (va_runV (As := []) (rest := []) ⟨hx, hb, hml, hown, hts⟩ (c_NW_take l dC dI _ oN oI oT oW oR oP oM oE aI ni aT nt) (cwV (C := R_NW) 0 hts (nw_GV (nw_m 60 rfl) (nw_m 61 rfl) (nw_m 62 rfl) (nw_m 43 rfl) (nw_m 63 rfl)) rfl rfl rfl (by decide +kernel) ⟨Nat.le_of_ble_eq_true rfl, Nat.le_of_ble_eq_true rfl⟩) (nw_prewV (q0 := 0) (ci := 0) (q := (R_NW, F_NW, 7)) hK hP hD [0, 1, 2] [] (by decide) rfl rfl rfl rfl) rfl rfl hl.1 rfl (lv_room (Nat.le_of_ble_eq_true rfl)) d_NW_add_1 ⟨Nat.le_of_ble_eq_true rfl, Nat.le_of_ble_eq_true rfl⟩) (fun r _ H locs hw hP hD hS => ?_)
  replace hP : va_P (dC, dI) nw_cls [(aI, nw_ai cB 60 ci), (oW, .inr (7, [.ref aW, .ref bW, .int (nI wn)])), (aW, nw_ai cB 12000 C), (bW, nw_ai cI 1001 st), (oN, .inr (0, [.ref oT, .ref oI, .ref oW, .ref oR, .ref oP, .ref oM, .ref oE])), (oI, .inr (6, [.ref aI, .int (nI ni)])), (oT, .inr (6, [.ref aT, .int (nI 0)]))] H := hP
  replace hD : va_D A [(aI, nw_ai cB 60 ci), (oW, .inr (7, [.ref aW, .ref bW, .int (nI wn)])), (aW, nw_ai cB 12000 C), (bW, nw_ai cI 1001 st), (oN, .inr (0, [.ref oT, .ref oI, .ref oW, .ref oR, .ref oP, .ref oM, .ref oE])), (oI, .inr (6, [.ref aI, .int (nI ni)])), (oT, .inr (6, [.ref aT, .int (nI 0)]))] := hD
  have hw := hw.symm
  subst hw
  have hP := hP.sub (ws' := [(oN, .inr (0, [.ref oT, .ref oI, .ref oW, .ref oR, .ref oP, .ref oM, .ref oE])), (oI, .inr (6, [.ref aI, .int (nI ni)])), (oT, .inr (6, [.ref aT, .int (nI 0)])), (aI, nw_ai cB 60 ci), (oW, .inr (7, [.ref aW, .ref bW, .int (nI wn)])), (aW, nw_ai cB 12000 C), (bW, nw_ai cI 1001 st)]) [4, 5, 6, 0, 1, 2, 3] rfl
  have hD := hD.sub (ws' := [(oN, .inr (0, [.ref oT, .ref oI, .ref oW, .ref oR, .ref oP, .ref oM, .ref oE])), (oI, .inr (6, [.ref aI, .int (nI ni)])), (oT, .inr (6, [.ref aT, .int (nI 0)])), (aI, nw_ai cB 60 ci), (oW, .inr (7, [.ref aW, .ref bW, .int (nI wn)])), (aW, nw_ai cB 12000 C), (bW, nw_ai cI 1001 st)]) [4, 5, 6, 0, 1, 2, 3] (by decide) rfl
  refine lv_astore_n hx hb d_NW_add_4 rfl hl (by decide) rfl (fun ls hl => ?_)
  replace hl : lv_has ls 3 [(1, .ref oI), (0, .ref oN)] := hl
  refine lv_aload_n hx hb d_NW_add_5 rfl (lv_at hl 0 rfl) ?_
  refine vp_callSi (va_Run.run (va_runV (As := []) (rest := []) ⟨hx, hb, hml, hown, hts⟩ (c_Row_isEmpty l dC dI oI aI ni (by omega)) (cwV (C := R_Row) 0 hts (nw_GV (nw_m 64 rfl) (nw_m 65 rfl) (nw_m 66 rfl) (nw_m 5 rfl) (nw_m 67 rfl)) rfl rfl rfl (by decide +kernel) ⟨Nat.le_of_ble_eq_true rfl, Nat.le_of_ble_eq_true rfl⟩) (nw_preV (q0 := 1) (ci := 6) (q := (R_Row, F_Row, 2)) hK hP [1] [] rfl rfl rfl rfl) rfl rfl hl.1 rfl (lv_room (Nat.le_of_ble_eq_true rfl)) d_NW_add_6 ⟨Nat.le_of_ble_eq_true rfl, Nat.le_of_ble_eq_true rfl⟩)) (fun r her => ?_)
  subst her
  refine nw_ti (y := nI 0) (congrArg nI (by rw [if_neg (by omega)])) ?_
  refine lv_if_eq hx hb d_NW_add_9 (tgt := 20) (by decide) (fun a1 => ?_) (fun a1 => ?_)
  · rw [nw_eq0 (by omega)] at a1
    refine lv_aload_n hx hb d_NW_add_20 rfl (lv_at hl 1 rfl) ?_
    refine va_get (D := (dC, dI)) (ci := 0) (v := .ref oW) (C := R_NW) (T := F_NW) (N := 7) hx hb hts hin_NW hown hK hP 0 rfl rfl 2 (by decide) (hts _ (nw_mc 15 rfl)) (fun _ h9 => h9) rfl d_NW_add_21 ?_
    refine lv_aload_n hx hb d_NW_add_24 rfl (lv_at hl 0 rfl) ?_
    refine vp_callSi (va_Run.run (va_runV (As := [.ref oI]) (rest := []) ⟨hx, hb, hml, hown, hts⟩ (c_WL_placeOf l dC dI cB cI oW aW bW wn C st oI aI ni ci hwn hni hm (fun j => Nat.lt_trans (hC j) (by decide)) (fun j => Nat.lt_trans (hci j) (by decide)) hmono) (cwV (C := R_WL) 1 hts (nw_GV (nw_m 68 rfl) (nw_m 69 rfl) (nw_m 70 rfl) (nw_m 12 rfl) (nw_m 71 rfl)) rfl rfl rfl (by decide +kernel) ⟨Nat.le_of_ble_eq_true rfl, Nat.le_of_ble_eq_true rfl⟩) (nw_preV (q0 := 4) (ci := 7) (q := (R_WL, F_WL, 3)) hK hP [4, 5, 6, 1, 3] [0, 1] rfl rfl rfl rfl) rfl rfl hl.1 rfl (lv_room (Nat.le_of_ble_eq_true rfl)) d_NW_add_25 ⟨Nat.le_of_ble_eq_true rfl, Nat.le_of_ble_eq_true rfl⟩)) (fun r her => ?_)
    obtain ⟨p0, rfl, hp1, hp2, hp3⟩ := her
    have hpl : p0 = nw_cnt (fun i => nw_cm (fun k => C (st i + k)) (st (i + 1) - st i) ci ni < 0) wn := (nw_cnt_cut hp1 hp2 hp3).symm
    have hpp : p0 = pl := hpl.trans hpl0.symm
    subst hpp
    refine lv_istore_n hx hb d_NW_add_28 rfl hl (by decide) rfl (fun ls hl => ?_)
    replace hl : lv_has ls 3 [(2, .int (nI p0)), (1, .ref oI), (0, .ref oN)] := hl
    refine lv_aload_n hx hb d_NW_add_29 rfl (lv_at hl 2 rfl) ?_
    refine va_get (D := (dC, dI)) (ci := 0) (v := .ref oW) (C := R_NW) (T := F_NW) (N := 7) hx hb hts hin_NW hown hK hP 0 rfl rfl 2 (by decide) (hts _ (nw_mc 15 rfl)) (fun _ h9 => h9) rfl d_NW_add_30 ?_
    refine lv_iload_n hx hb d_NW_add_33 rfl (lv_at hl 0 rfl) ?_
    refine lv_aload_n hx hb d_NW_add_34 rfl (lv_at hl 1 rfl) ?_
    refine vp_callSi (va_Run.run (va_runV (As := [.int (nI p0), .ref oI]) (rest := []) ⟨hx, hb, hml, hown, hts⟩ (c_WL_isAt l dC dI cB cI oW aW bW wn C st oI aI ni ci p0 (by omega) (by omega) (fun h => hm _ h) (by omega) (fun j => Nat.lt_trans (hC j) (by decide)) (fun j => Nat.lt_trans (hci j) (by decide))) (cwV (C := R_WL) 2 hts (nw_GV (nw_m 72 rfl) (nw_m 73 rfl) (nw_m 74 rfl) (nw_m 12 rfl) (nw_m 75 rfl)) rfl rfl rfl (by decide +kernel) ⟨Nat.le_of_ble_eq_true rfl, Nat.le_of_ble_eq_true rfl⟩) (nw_preV (q0 := 4) (ci := 7) (q := (R_WL, F_WL, 3)) hK hP [4, 5, 6, 1, 3] [0, 1] rfl rfl rfl rfl) rfl rfl hl.1 rfl (lv_room (Nat.le_of_ble_eq_true rfl)) d_NW_add_35 ⟨Nat.le_of_ble_eq_true rfl, Nat.le_of_ble_eq_true rfl⟩)) (fun r her => ?_)
    rcases her with ⟨-, hn9⟩ | ⟨rfl, -⟩
    · exact absurd hn9 ho
    · refine lv_if_eq hx hb d_NW_add_38 (tgt := 49) (by decide) (fun a2 => ?_) (fun a2 => ?_)
      · rw [nw_eq0 (by omega)] at a2
        refine lv_aload_n hx hb d_NW_add_49 rfl (lv_at hl 2 rfl) ?_
        refine va_get (D := (dC, dI)) (ci := 0) (v := .ref oW) (C := R_NW) (T := F_NW) (N := 7) hx hb hts hin_NW hown hK hP 0 rfl rfl 2 (by decide) (hts _ (nw_mc 15 rfl)) (fun _ h9 => h9) rfl d_NW_add_50 ?_
        refine lv_aload_n hx hb d_NW_add_53 rfl (lv_at hl 1 rfl) ?_
        refine vp_callSi (va_Run.run (va_runV (As := [.ref oI]) (rest := []) ⟨hx, hb, hml, hown, hts⟩ (c_WL_hasRoomFor l dC dI cI oW aW bW wn st oI aI ni (by omega) (by omega) (by omega)) (cwV (C := R_WL) 1 hts (nw_GV (nw_m 80 rfl) (nw_m 81 rfl) (nw_m 82 rfl) (nw_m 12 rfl) (nw_m 83 rfl)) rfl rfl rfl (by decide +kernel) ⟨Nat.le_of_ble_eq_true rfl, Nat.le_of_ble_eq_true rfl⟩) (nw_preV (q0 := 4) (ci := 7) (q := (R_WL, F_WL, 3)) hK hP [4, 6, 1] [1] rfl rfl rfl rfl) rfl rfl hl.1 rfl (lv_room (Nat.le_of_ble_eq_true rfl)) d_NW_add_54 ⟨Nat.le_of_ble_eq_true rfl, Nat.le_of_ble_eq_true rfl⟩)) (fun r her => ?_)
        subst her
        refine nw_ti (y := nI 1) (congrArg nI (by rw [if_pos ⟨hw2, hch⟩])) ?_
        refine lv_if_ne hx hb d_NW_add_57 (tgt := 68) (by decide) (fun a3 => ?_) (fun a3 => ?_)
        · rw [nw_eq0 (by omega)] at a3
          refine lv_aload_n hx hb d_NW_add_68 rfl (lv_at hl 2 rfl) ?_
          refine va_get (D := (dC, dI)) (ci := 0) (v := .ref oW) (C := R_NW) (T := F_NW) (N := 7) hx hb hts hin_NW hown hK hP 0 rfl rfl 2 (by decide) (hts _ (nw_mc 15 rfl)) (fun _ h9 => h9) rfl d_NW_add_69 ?_
          refine lv_iload_n hx hb d_NW_add_72 rfl (lv_at hl 0 rfl) ?_
          refine lv_aload_n hx hb d_NW_add_73 rfl (lv_at hl 1 rfl) ?_
          refine nw_callv (wc := [(oW, .inr (7, [.ref aW, .ref bW, .int (nI wn)])), (aW, nw_ai cB 12000 C), (bW, nw_ai cI 1001 st), (oI, .inr (6, [.ref aI, .int (nI ni)])), (aI, nw_ai cB 60 ci)]) (wr := [(oN, .inr (0, [.ref oT, .ref oI, .ref oW, .ref oR, .ref oP, .ref oM, .ref oE])), (oT, .inr (6, [.ref aT, .int (nI 0)]))]) hP hD hS hA [4, 5, 6, 1, 3] [0, 2] rfl rfl (by decide) (by decide) (va_runV (As := [.int (nI p0), .ref oI]) (rest := []) ⟨hx, hb, hml, hown, hts⟩ (c_WL_insertAt l dC dI _ cB cI oW aW bW wn C st oI aI ni ci p0 hp1 hw2 (hmo _ _ hp1 (Nat.le_refl _)) hch (fun x hx => Nat.le_trans (hmo x wn hx (Nat.le_refl _)) hse) hni (fun j => Nat.lt_trans (hC j) (by decide)) (fun j => Nat.lt_trans (hci j) (by decide))) (cwV (C := R_WL) 2 hts (nw_GV (nw_m 84 rfl) (nw_m 85 rfl) (nw_m 86 rfl) (nw_m 12 rfl) (nw_m 87 rfl)) rfl rfl rfl (by decide +kernel) ⟨Nat.le_of_ble_eq_true rfl, Nat.le_of_ble_eq_true rfl⟩) (nw_prewV (q0 := 4) (ci := 7) (q := (R_WL, F_WL, 3)) hK hP hD [4, 5, 6, 1, 3] [0, 1] (by decide) rfl rfl rfl rfl) rfl rfl hl.1 rfl (lv_room (Nat.le_of_ble_eq_true rfl)) d_NW_add_74 ⟨Nat.le_of_ble_eq_true rfl, Nat.le_of_ble_eq_true rfl⟩) (fun _ H locs hw hP hD hS => ?_)
          replace hP : va_P (dC, dI) nw_cls [(oN, .inr (0, [.ref oT, .ref oI, .ref oW, .ref oR, .ref oP, .ref oM, .ref oE])), (oT, .inr (6, [.ref aT, .int (nI 0)])), (oW, .inr (7, [.ref aW, .ref bW, .int (nI (wn + 1))])), (aW, nw_ai cB 12000 (va_cpy ci (va_cpy C C (st p0) (st p0 + ni) (st wn - st p0)) 0 (st p0) ni)), (bW, nw_ai cI 1001 (nw_ins st p0 wn ni)), (oI, .inr (6, [.ref aI, .int (nI ni)])), (aI, nw_ai cB 60 ci)] H := hP
          replace hD : va_D A [(oN, .inr (0, [.ref oT, .ref oI, .ref oW, .ref oR, .ref oP, .ref oM, .ref oE])), (oT, .inr (6, [.ref aT, .int (nI 0)])), (oW, .inr (7, [.ref aW, .ref bW, .int (nI (wn + 1))])), (aW, nw_ai cB 12000 (va_cpy ci (va_cpy C C (st p0) (st p0 + ni) (st wn - st p0)) 0 (st p0) ni)), (bW, nw_ai cI 1001 (nw_ins st p0 wn ni)), (oI, .inr (6, [.ref aI, .int (nI ni)])), (aI, nw_ai cB 60 ci)] := hD
          have hP := hP.sub (ws' := [(oN, .inr (0, [.ref oT, .ref oI, .ref oW, .ref oR, .ref oP, .ref oM, .ref oE])), (oI, .inr (6, [.ref aI, .int (nI ni)])), (oT, .inr (6, [.ref aT, .int (nI 0)])), (aI, nw_ai cB 60 ci), (oW, .inr (7, [.ref aW, .ref bW, .int (nI (wn + 1))])), (aW, nw_ai cB 12000 (va_cpy ci (va_cpy C C (st p0) (st p0 + ni) (st wn - st p0)) 0 (st p0) ni)), (bW, nw_ai cI 1001 (nw_ins st p0 wn ni))]) [0, 5, 1, 6, 2, 3, 4] rfl
          have hD := hD.sub (ws' := [(oN, .inr (0, [.ref oT, .ref oI, .ref oW, .ref oR, .ref oP, .ref oM, .ref oE])), (oI, .inr (6, [.ref aI, .int (nI ni)])), (oT, .inr (6, [.ref aT, .int (nI 0)])), (aI, nw_ai cB 60 ci), (oW, .inr (7, [.ref aW, .ref bW, .int (nI (wn + 1))])), (aW, nw_ai cB 12000 (va_cpy ci (va_cpy C C (st p0) (st p0 + ni) (st wn - st p0)) 0 (st p0) ni)), (bW, nw_ai cI 1001 (nw_ins st p0 wn ni))]) [0, 5, 1, 6, 2, 3, 4] (by decide) rfl
          refine lv_aload_n hx hb d_NW_add_77 rfl (lv_at hl 2 rfl) ?_
          refine va_get (D := (dC, dI)) (ci := 0) (v := .ref oW) (C := R_NW) (T := F_NW) (N := 7) hx hb hts hin_NW hown hK hP 0 rfl rfl 2 (by decide) (hts _ (nw_mc 15 rfl)) (fun _ h9 => h9) rfl d_NW_add_78 ?_
          refine vp_callSi (va_Run.run (va_runV (As := []) (rest := []) ⟨hx, hb, hml, hown, hts⟩ (c_WL_size l dC dI oW aW bW (wn + 1)) (cwV (C := R_WL) 0 hts (nw_GV (nw_m 76 rfl) (nw_m 77 rfl) (nw_m 78 rfl) (nw_m 12 rfl) (nw_m 79 rfl)) rfl rfl rfl (by decide +kernel) ⟨Nat.le_of_ble_eq_true rfl, Nat.le_of_ble_eq_true rfl⟩) (nw_preV (q0 := 4) (ci := 7) (q := (R_WL, F_WL, 3)) hK hP [4] [] rfl rfl rfl rfl) rfl rfl hl.1 rfl (lv_room (Nat.le_of_ble_eq_true rfl)) d_NW_add_81 ⟨Nat.le_of_ble_eq_true rfl, Nat.le_of_ble_eq_true rfl⟩)) (fun r her => ?_)
          subst her
          exact W.iret (v := nI (wn + 1)) hx hb hr (fun t ht hW => ⟨⟨_, (), rfl, rfl, by rw [ht]; exact hP, hD⟩, hS.F ht⟩) hS.2.2 d_NW_add_84
        · rw [nw_eq0 (by omega)] at a3
          omega
      · rw [nw_eq0 (by omega)] at a2
        omega
  · rw [nw_eq0 (by omega)] at a1
    omega

set_option maxHeartbeats 4000000 in
set_option maxRecDepth 100000 in
theorem c_NW_remove_no (l : Launch) (dC : Nat → ClassId) (dI : Nat → Nat → Nat) (sz : Nat) (cB cI : ClassId) (oN oI oT oW oR oP oM oE : Nat) (aI ni : Nat) (ci : Nat → Nat) (aT nt : Nat) (aW bW wn : Nat) (C st : Nat → Nat) (hwn : wn ≤ 1000) (hm : ∀ i, i < wn → st i ≤ st (i + 1) ∧ st (i + 1) ≤ 12000 ∧ st (i + 1) - st i ≤ 60) (hni : ni ≤ 60) (hC : ∀ j, C j < 127) (hci : ∀ j, ci j < 127) (hmono : ∀ i j, i < j → j < wn → nw_cm (fun k => C (st j + k)) (st (j + 1) - st j) ci ni < 0 → nw_cm (fun k => C (st i + k)) (st (i + 1) - st i) ci ni < 0) (pl : Nat) (hpl0 : pl = nw_cnt (fun i => nw_cm (fun k => C (st i + k)) (st (i + 1) - st i) ci ni < 0) wn) (h1 : 1 ≤ ni) (ho : ¬ (pl < wn ∧ nw_cm (fun k => C (st pl + k)) (st (pl + 1) - st pl) ci ni = 0)) : Met l y_NW_remove w_NW_remove ({ frames := 3, cells := 0, slots := 0, locals := 70 }) (nw_Pw [.ref oN] (dC, dI) nw_cls [(cB, .byte), (cI, .int)] [(oN, .inr (0, [.ref oI, .ref oT, .ref oW, .ref oR, .ref oP, .ref oM, .ref oE])), (oI, .inr (6, [.ref aI, .int (nI ni)])), (oT, .inr (6, [.ref aT, .int (nI nt)])), (aI, nw_ai cB 60 ci), (oW, .inr (7, [.ref aW, .ref bW, .int (nI wn)])), (aW, nw_ai cB 12000 C), (bW, nw_ai cI 1001 st)] sz) (va_Qi (fun (r : Int32) (_ : Unit) => r = nI wn) (nw_B (dC, dI) nw_cls (va_A [(oN, .inr (0, [.ref oI, .ref oT, .ref oW, .ref oR, .ref oP, .ref oM, .ref oE])), (oI, .inr (6, [.ref aI, .int (nI ni)])), (oT, .inr (6, [.ref aT, .int (nI nt)])), (aI, nw_ai cB 60 ci), (oW, .inr (7, [.ref aW, .ref bW, .int (nI wn)])), (aW, nw_ai cB 12000 C), (bW, nw_ai cI 1001 st)] sz) (fun _ : Unit => [(oN, .inr (0, [.ref oT, .ref oI, .ref oW, .ref oR, .ref oP, .ref oM, .ref oE])), (oI, .inr (6, [.ref aI, .int (nI ni)])), (oT, .inr (6, [.ref aT, .int (nI 0)])), (aI, nw_ai cB 60 ci), (oW, .inr (7, [.ref aW, .ref bW, .int (nI wn)])), (aW, nw_ai cB 12000 C), (bW, nw_ai cI 1001 st)])) (va_A [(oN, .inr (0, [.ref oI, .ref oT, .ref oW, .ref oR, .ref oP, .ref oM, .ref oE])), (oI, .inr (6, [.ref aI, .int (nI ni)])), (oT, .inr (6, [.ref aT, .int (nI nt)])), (aI, nw_ai cB 60 ci), (oW, .inr (7, [.ref aW, .ref bW, .int (nI wn)])), (aW, nw_ai cB 12000 C), (bW, nw_ai cI 1001 st)] sz)) 0 0 (va_A [(oN, .inr (0, [.ref oI, .ref oT, .ref oW, .ref oR, .ref oP, .ref oM, .ref oE])), (oI, .inr (6, [.ref aI, .int (nI ni)])), (oT, .inr (6, [.ref aT, .int (nI nt)])), (aI, nw_ai cB 60 ci), (oW, .inr (7, [.ref aW, .ref bW, .int (nI wn)])), (aW, nw_ai cB 12000 C), (bW, nw_ai cI 1001 st)] sz) := by
  refine Met.ofW (cc := b_NW_remove) (maxL := 3) (ret := (some .int)) (by decide) rfl ?_
  intro p e s m args below meth cd s₁ B hml hv0
  obtain ⟨rfl, hsz, hP, hK, hD0⟩ := hv0
  have hx := B.exec
  have hb := B.bytes
  have hr := B.returns
  have hts := atoms_spec (ws := w_NW_remove) B.pre
  have hown : s.vm.findClass R_NW = some m.cls := findClass_of_methodNamed B.named
  have hlocks := B.notSynchronized
  subst hsz
  have hD := hD0.self (sz := s.heap.size)
  generalize hAe : va_A [(oN, .inr (0, [.ref oI, .ref oT, .ref oW, .ref oR, .ref oP, .ref oM, .ref oE])), (oI, .inr (6, [.ref aI, .int (nI ni)])), (oT, .inr (6, [.ref aT, .int (nI nt)])), (aI, nw_ai cB 60 ci), (oW, .inr (7, [.ref aW, .ref bW, .int (nI wn)])), (aW, nw_ai cB 12000 C), (bW, nw_ai cI 1001 st)] s.heap.size = A at hD ⊢
  have hA : ∀ q : Nat, s.heap.size ≤ q → A q := fun q h => by rw [← hAe]; exact Or.inr h
  have hS : va_S A s.heap s.heap [] := va_S.rf
  have hl := lv_entry ([.ref oN]) (n := 3) (Nat.le_of_ble_eq_true rfl)
  rw [lg_entry_eq]
  generalize (lg_sl ([.ref oN]) ++ List.replicate (3 - (lg_sl ([.ref oN])).length) Slot.unset).toArray = ls at hl ⊢
  have hl : lv_has ls 3 [(0, .ref oN)] := hl
  refine lv_aload_n hx hb d_NW_remove_0 rfl (lv_at hl 0 rfl) ?_
  refine nw_callr (wc := [(oN, .inr (0, [.ref oI, .ref oT, .ref oW, .ref oR, .ref oP, .ref oM, .ref oE])), (oI, .inr (6, [.ref aI, .int (nI ni)])), (oT, .inr (6, [.ref aT, .int (nI nt)]))]) (wr := [(aI, nw_ai cB 60 ci), (oW, .inr (7, [.ref aW, .ref bW, .int (nI wn)])), (aW, nw_ai cB 12000 C), (bW, nw_ai cI 1001 st)]) hP hD hS hA [0, 1, 2] [3, 4, 5, 6] rfl rfl (by decide) (by decide) (va_runV (As := []) (rest := []) ⟨hx, hb, hml, hown, hts⟩ (c_NW_take l dC dI _ oN oI oT oW oR oP oM oE aI ni aT nt) (cwV (C := R_NW) 0 hts (nw_GV (nw_m 60 rfl) (nw_m 61 rfl) (nw_m 62 rfl) (nw_m 43 rfl) (nw_m 63 rfl)) rfl rfl rfl (by decide +kernel) ⟨Nat.le_of_ble_eq_true rfl, Nat.le_of_ble_eq_true rfl⟩) (nw_prewV (q0 := 0) (ci := 0) (q := (R_NW, F_NW, 7)) hK hP hD [0, 1, 2] [] (by decide) rfl rfl rfl rfl) rfl rfl hl.1 rfl (lv_room (Nat.le_of_ble_eq_true rfl)) d_NW_remove_1 ⟨Nat.le_of_ble_eq_true rfl, Nat.le_of_ble_eq_true rfl⟩) (fun r _ H locs hw hP hD hS => ?_)
  replace hP : va_P (dC, dI) nw_cls [(aI, nw_ai cB 60 ci), (oW, .inr (7, [.ref aW, .ref bW, .int (nI wn)])), (aW, nw_ai cB 12000 C), (bW, nw_ai cI 1001 st), (oN, .inr (0, [.ref oT, .ref oI, .ref oW, .ref oR, .ref oP, .ref oM, .ref oE])), (oI, .inr (6, [.ref aI, .int (nI ni)])), (oT, .inr (6, [.ref aT, .int (nI 0)]))] H := hP
  replace hD : va_D A [(aI, nw_ai cB 60 ci), (oW, .inr (7, [.ref aW, .ref bW, .int (nI wn)])), (aW, nw_ai cB 12000 C), (bW, nw_ai cI 1001 st), (oN, .inr (0, [.ref oT, .ref oI, .ref oW, .ref oR, .ref oP, .ref oM, .ref oE])), (oI, .inr (6, [.ref aI, .int (nI ni)])), (oT, .inr (6, [.ref aT, .int (nI 0)]))] := hD
  have hw := hw.symm
  subst hw
  have hP := hP.sub (ws' := [(oN, .inr (0, [.ref oT, .ref oI, .ref oW, .ref oR, .ref oP, .ref oM, .ref oE])), (oI, .inr (6, [.ref aI, .int (nI ni)])), (oT, .inr (6, [.ref aT, .int (nI 0)])), (aI, nw_ai cB 60 ci), (oW, .inr (7, [.ref aW, .ref bW, .int (nI wn)])), (aW, nw_ai cB 12000 C), (bW, nw_ai cI 1001 st)]) [4, 5, 6, 0, 1, 2, 3] rfl
  have hD := hD.sub (ws' := [(oN, .inr (0, [.ref oT, .ref oI, .ref oW, .ref oR, .ref oP, .ref oM, .ref oE])), (oI, .inr (6, [.ref aI, .int (nI ni)])), (oT, .inr (6, [.ref aT, .int (nI 0)])), (aI, nw_ai cB 60 ci), (oW, .inr (7, [.ref aW, .ref bW, .int (nI wn)])), (aW, nw_ai cB 12000 C), (bW, nw_ai cI 1001 st)]) [4, 5, 6, 0, 1, 2, 3] (by decide) rfl
  refine lv_astore_n hx hb d_NW_remove_4 rfl hl (by decide) rfl (fun ls hl => ?_)
  replace hl : lv_has ls 3 [(1, .ref oI), (0, .ref oN)] := hl
  refine lv_aload_n hx hb d_NW_remove_5 rfl (lv_at hl 0 rfl) ?_
  refine vp_callSi (va_Run.run (va_runV (As := []) (rest := []) ⟨hx, hb, hml, hown, hts⟩ (c_Row_isEmpty l dC dI oI aI ni (by omega)) (cwV (C := R_Row) 0 hts (nw_GV (nw_m 64 rfl) (nw_m 65 rfl) (nw_m 66 rfl) (nw_m 5 rfl) (nw_m 67 rfl)) rfl rfl rfl (by decide +kernel) ⟨Nat.le_of_ble_eq_true rfl, Nat.le_of_ble_eq_true rfl⟩) (nw_preV (q0 := 1) (ci := 6) (q := (R_Row, F_Row, 2)) hK hP [1] [] rfl rfl rfl rfl) rfl rfl hl.1 rfl (lv_room (Nat.le_of_ble_eq_true rfl)) d_NW_remove_6 ⟨Nat.le_of_ble_eq_true rfl, Nat.le_of_ble_eq_true rfl⟩)) (fun r her => ?_)
  subst her
  refine nw_ti (y := nI 0) (congrArg nI (by rw [if_neg (by omega)])) ?_
  refine lv_if_eq hx hb d_NW_remove_9 (tgt := 20) (by decide) (fun a1 => ?_) (fun a1 => ?_)
  · rw [nw_eq0 (by omega)] at a1
    refine lv_aload_n hx hb d_NW_remove_20 rfl (lv_at hl 1 rfl) ?_
    refine va_get (D := (dC, dI)) (ci := 0) (v := .ref oW) (C := R_NW) (T := F_NW) (N := 7) hx hb hts hin_NW hown hK hP 0 rfl rfl 2 (by decide) (hts _ (nw_mc 15 rfl)) (fun _ h9 => h9) rfl d_NW_remove_21 ?_
    refine lv_aload_n hx hb d_NW_remove_24 rfl (lv_at hl 0 rfl) ?_
    refine vp_callSi (va_Run.run (va_runV (As := [.ref oI]) (rest := []) ⟨hx, hb, hml, hown, hts⟩ (c_WL_placeOf l dC dI cB cI oW aW bW wn C st oI aI ni ci hwn hni hm (fun j => Nat.lt_trans (hC j) (by decide)) (fun j => Nat.lt_trans (hci j) (by decide)) hmono) (cwV (C := R_WL) 1 hts (nw_GV (nw_m 68 rfl) (nw_m 69 rfl) (nw_m 70 rfl) (nw_m 12 rfl) (nw_m 71 rfl)) rfl rfl rfl (by decide +kernel) ⟨Nat.le_of_ble_eq_true rfl, Nat.le_of_ble_eq_true rfl⟩) (nw_preV (q0 := 4) (ci := 7) (q := (R_WL, F_WL, 3)) hK hP [4, 5, 6, 1, 3] [0, 1] rfl rfl rfl rfl) rfl rfl hl.1 rfl (lv_room (Nat.le_of_ble_eq_true rfl)) d_NW_remove_25 ⟨Nat.le_of_ble_eq_true rfl, Nat.le_of_ble_eq_true rfl⟩)) (fun r her => ?_)
    obtain ⟨p0, rfl, hp1, hp2, hp3⟩ := her
    have hpl : p0 = nw_cnt (fun i => nw_cm (fun k => C (st i + k)) (st (i + 1) - st i) ci ni < 0) wn := (nw_cnt_cut hp1 hp2 hp3).symm
    have hpp : p0 = pl := hpl.trans hpl0.symm
    subst hpp
    refine lv_istore_n hx hb d_NW_remove_28 rfl hl (by decide) rfl (fun ls hl => ?_)
    replace hl : lv_has ls 3 [(2, .int (nI p0)), (1, .ref oI), (0, .ref oN)] := hl
    refine lv_aload_n hx hb d_NW_remove_29 rfl (lv_at hl 2 rfl) ?_
    refine va_get (D := (dC, dI)) (ci := 0) (v := .ref oW) (C := R_NW) (T := F_NW) (N := 7) hx hb hts hin_NW hown hK hP 0 rfl rfl 2 (by decide) (hts _ (nw_mc 15 rfl)) (fun _ h9 => h9) rfl d_NW_remove_30 ?_
    refine lv_iload_n hx hb d_NW_remove_33 rfl (lv_at hl 0 rfl) ?_
    refine lv_aload_n hx hb d_NW_remove_34 rfl (lv_at hl 1 rfl) ?_
    refine vp_callSi (va_Run.run (va_runV (As := [.int (nI p0), .ref oI]) (rest := []) ⟨hx, hb, hml, hown, hts⟩ (c_WL_isAt l dC dI cB cI oW aW bW wn C st oI aI ni ci p0 (by omega) (by omega) (fun h => hm _ h) (by omega) (fun j => Nat.lt_trans (hC j) (by decide)) (fun j => Nat.lt_trans (hci j) (by decide))) (cwV (C := R_WL) 2 hts (nw_GV (nw_m 72 rfl) (nw_m 73 rfl) (nw_m 74 rfl) (nw_m 12 rfl) (nw_m 75 rfl)) rfl rfl rfl (by decide +kernel) ⟨Nat.le_of_ble_eq_true rfl, Nat.le_of_ble_eq_true rfl⟩) (nw_preV (q0 := 4) (ci := 7) (q := (R_WL, F_WL, 3)) hK hP [4, 5, 6, 1, 3] [0, 1] rfl rfl rfl rfl) rfl rfl hl.1 rfl (lv_room (Nat.le_of_ble_eq_true rfl)) d_NW_remove_35 ⟨Nat.le_of_ble_eq_true rfl, Nat.le_of_ble_eq_true rfl⟩)) (fun r her => ?_)
    rcases her with ⟨-, hn9⟩ | ⟨rfl, -⟩
    · exact absurd hn9 ho
    · refine lv_if_eq hx hb d_NW_remove_38 (tgt := 49) (by decide) (fun a2 => ?_) (fun a2 => ?_)
      · rw [nw_eq0 (by omega)] at a2
        refine lv_aload_n hx hb d_NW_remove_49 rfl (lv_at hl 2 rfl) ?_
        refine va_get (D := (dC, dI)) (ci := 0) (v := .ref oW) (C := R_NW) (T := F_NW) (N := 7) hx hb hts hin_NW hown hK hP 0 rfl rfl 2 (by decide) (hts _ (nw_mc 15 rfl)) (fun _ h9 => h9) rfl d_NW_remove_50 ?_
        refine vp_callSi (va_Run.run (va_runV (As := []) (rest := []) ⟨hx, hb, hml, hown, hts⟩ (c_WL_size l dC dI oW aW bW wn) (cwV (C := R_WL) 0 hts (nw_GV (nw_m 76 rfl) (nw_m 77 rfl) (nw_m 78 rfl) (nw_m 12 rfl) (nw_m 79 rfl)) rfl rfl rfl (by decide +kernel) ⟨Nat.le_of_ble_eq_true rfl, Nat.le_of_ble_eq_true rfl⟩) (nw_preV (q0 := 4) (ci := 7) (q := (R_WL, F_WL, 3)) hK hP [4] [] rfl rfl rfl rfl) rfl rfl hl.1 rfl (lv_room (Nat.le_of_ble_eq_true rfl)) d_NW_remove_53 ⟨Nat.le_of_ble_eq_true rfl, Nat.le_of_ble_eq_true rfl⟩)) (fun r her => ?_)
        subst her
        exact W.iret (v := nI wn) hx hb hr (fun t ht hW => ⟨⟨_, (), rfl, rfl, by rw [ht]; exact hP, hD⟩, hS.F ht⟩) hS.2.2 d_NW_remove_56
      · rw [nw_eq0 (by omega)] at a2
        omega
  · rw [nw_eq0 (by omega)] at a1
    omega

set_option maxHeartbeats 4000000 in
set_option maxRecDepth 100000 in
theorem c_NW_remove_yes (l : Launch) (dC : Nat → ClassId) (dI : Nat → Nat → Nat) (sz : Nat) (cB cI : ClassId) (oN oI oT oW oR oP oM oE : Nat) (aI ni : Nat) (ci : Nat → Nat) (aT nt : Nat) (aW bW wn : Nat) (C st : Nat → Nat) (hwn : wn ≤ 1000) (hm : ∀ i, i < wn → st i ≤ st (i + 1) ∧ st (i + 1) ≤ 12000 ∧ st (i + 1) - st i ≤ 60) (hni : ni ≤ 60) (hC : ∀ j, C j < 127) (hci : ∀ j, ci j < 127) (hmono : ∀ i j, i < j → j < wn → nw_cm (fun k => C (st j + k)) (st (j + 1) - st j) ci ni < 0 → nw_cm (fun k => C (st i + k)) (st (i + 1) - st i) ci ni < 0) (pl : Nat) (hpl0 : pl = nw_cnt (fun i => nw_cm (fun k => C (st i + k)) (st (i + 1) - st i) ci ni < 0) wn) (h1 : 1 ≤ ni) (ho : pl < wn ∧ nw_cm (fun k => C (st pl + k)) (st (pl + 1) - st pl) ci ni = 0) (hmo : ∀ i j, i ≤ j → j ≤ wn → st i ≤ st j) (hse : st wn ≤ 12000) : Met l y_NW_remove w_NW_remove ({ frames := 3, cells := 0, slots := 0, locals := 70 }) (nw_Pw [.ref oN] (dC, dI) nw_cls [(cB, .byte), (cI, .int)] [(oN, .inr (0, [.ref oI, .ref oT, .ref oW, .ref oR, .ref oP, .ref oM, .ref oE])), (oI, .inr (6, [.ref aI, .int (nI ni)])), (oT, .inr (6, [.ref aT, .int (nI nt)])), (aI, nw_ai cB 60 ci), (oW, .inr (7, [.ref aW, .ref bW, .int (nI wn)])), (aW, nw_ai cB 12000 C), (bW, nw_ai cI 1001 st)] sz) (va_Qi (fun (r : Int32) (_ : Unit) => r = nI (wn - 1)) (nw_B (dC, dI) nw_cls (va_A [(oN, .inr (0, [.ref oI, .ref oT, .ref oW, .ref oR, .ref oP, .ref oM, .ref oE])), (oI, .inr (6, [.ref aI, .int (nI ni)])), (oT, .inr (6, [.ref aT, .int (nI nt)])), (aI, nw_ai cB 60 ci), (oW, .inr (7, [.ref aW, .ref bW, .int (nI wn)])), (aW, nw_ai cB 12000 C), (bW, nw_ai cI 1001 st)] sz) (fun _ : Unit => [(oN, .inr (0, [.ref oT, .ref oI, .ref oW, .ref oR, .ref oP, .ref oM, .ref oE])), (oI, .inr (6, [.ref aI, .int (nI ni)])), (oT, .inr (6, [.ref aT, .int (nI 0)])), (aI, nw_ai cB 60 ci), (oW, .inr (7, [.ref aW, .ref bW, .int (nI (wn - 1))])), (aW, nw_ai cB 12000 (va_cpy C C (st (pl + 1)) (st pl) (st wn - st (pl + 1)))), (bW, nw_ai cI 1001 (nw_del st pl wn (st (pl + 1) - st pl)))])) (va_A [(oN, .inr (0, [.ref oI, .ref oT, .ref oW, .ref oR, .ref oP, .ref oM, .ref oE])), (oI, .inr (6, [.ref aI, .int (nI ni)])), (oT, .inr (6, [.ref aT, .int (nI nt)])), (aI, nw_ai cB 60 ci), (oW, .inr (7, [.ref aW, .ref bW, .int (nI wn)])), (aW, nw_ai cB 12000 C), (bW, nw_ai cI 1001 st)] sz)) 0 0 (va_A [(oN, .inr (0, [.ref oI, .ref oT, .ref oW, .ref oR, .ref oP, .ref oM, .ref oE])), (oI, .inr (6, [.ref aI, .int (nI ni)])), (oT, .inr (6, [.ref aT, .int (nI nt)])), (aI, nw_ai cB 60 ci), (oW, .inr (7, [.ref aW, .ref bW, .int (nI wn)])), (aW, nw_ai cB 12000 C), (bW, nw_ai cI 1001 st)] sz) := by
  refine Met.ofW (cc := b_NW_remove) (maxL := 3) (ret := (some .int)) (by decide) rfl ?_
  intro p e s m args below meth cd s₁ B hml hv0
  obtain ⟨rfl, hsz, hP, hK, hD0⟩ := hv0
  have hx := B.exec
  have hb := B.bytes
  have hr := B.returns
  have hts := atoms_spec (ws := w_NW_remove) B.pre
  have hown : s.vm.findClass R_NW = some m.cls := findClass_of_methodNamed B.named
  have hlocks := B.notSynchronized
  subst hsz
  have hD := hD0.self (sz := s.heap.size)
  generalize hAe : va_A [(oN, .inr (0, [.ref oI, .ref oT, .ref oW, .ref oR, .ref oP, .ref oM, .ref oE])), (oI, .inr (6, [.ref aI, .int (nI ni)])), (oT, .inr (6, [.ref aT, .int (nI nt)])), (aI, nw_ai cB 60 ci), (oW, .inr (7, [.ref aW, .ref bW, .int (nI wn)])), (aW, nw_ai cB 12000 C), (bW, nw_ai cI 1001 st)] s.heap.size = A at hD ⊢
  have hA : ∀ q : Nat, s.heap.size ≤ q → A q := fun q h => by rw [← hAe]; exact Or.inr h
  have hS : va_S A s.heap s.heap [] := va_S.rf
  have hl := lv_entry ([.ref oN]) (n := 3) (Nat.le_of_ble_eq_true rfl)
  rw [lg_entry_eq]
  generalize (lg_sl ([.ref oN]) ++ List.replicate (3 - (lg_sl ([.ref oN])).length) Slot.unset).toArray = ls at hl ⊢
  have hl : lv_has ls 3 [(0, .ref oN)] := hl
  refine lv_aload_n hx hb d_NW_remove_0 rfl (lv_at hl 0 rfl) ?_
  refine nw_callr (wc := [(oN, .inr (0, [.ref oI, .ref oT, .ref oW, .ref oR, .ref oP, .ref oM, .ref oE])), (oI, .inr (6, [.ref aI, .int (nI ni)])), (oT, .inr (6, [.ref aT, .int (nI nt)]))]) (wr := [(aI, nw_ai cB 60 ci), (oW, .inr (7, [.ref aW, .ref bW, .int (nI wn)])), (aW, nw_ai cB 12000 C), (bW, nw_ai cI 1001 st)]) hP hD hS hA [0, 1, 2] [3, 4, 5, 6] rfl rfl (by decide) (by decide) (va_runV (As := []) (rest := []) ⟨hx, hb, hml, hown, hts⟩ (c_NW_take l dC dI _ oN oI oT oW oR oP oM oE aI ni aT nt) (cwV (C := R_NW) 0 hts (nw_GV (nw_m 60 rfl) (nw_m 61 rfl) (nw_m 62 rfl) (nw_m 43 rfl) (nw_m 63 rfl)) rfl rfl rfl (by decide +kernel) ⟨Nat.le_of_ble_eq_true rfl, Nat.le_of_ble_eq_true rfl⟩) (nw_prewV (q0 := 0) (ci := 0) (q := (R_NW, F_NW, 7)) hK hP hD [0, 1, 2] [] (by decide) rfl rfl rfl rfl) rfl rfl hl.1 rfl (lv_room (Nat.le_of_ble_eq_true rfl)) d_NW_remove_1 ⟨Nat.le_of_ble_eq_true rfl, Nat.le_of_ble_eq_true rfl⟩) (fun r _ H locs hw hP hD hS => ?_)
  replace hP : va_P (dC, dI) nw_cls [(aI, nw_ai cB 60 ci), (oW, .inr (7, [.ref aW, .ref bW, .int (nI wn)])), (aW, nw_ai cB 12000 C), (bW, nw_ai cI 1001 st), (oN, .inr (0, [.ref oT, .ref oI, .ref oW, .ref oR, .ref oP, .ref oM, .ref oE])), (oI, .inr (6, [.ref aI, .int (nI ni)])), (oT, .inr (6, [.ref aT, .int (nI 0)]))] H := hP
  replace hD : va_D A [(aI, nw_ai cB 60 ci), (oW, .inr (7, [.ref aW, .ref bW, .int (nI wn)])), (aW, nw_ai cB 12000 C), (bW, nw_ai cI 1001 st), (oN, .inr (0, [.ref oT, .ref oI, .ref oW, .ref oR, .ref oP, .ref oM, .ref oE])), (oI, .inr (6, [.ref aI, .int (nI ni)])), (oT, .inr (6, [.ref aT, .int (nI 0)]))] := hD
  have hw := hw.symm
  subst hw
  have hP := hP.sub (ws' := [(oN, .inr (0, [.ref oT, .ref oI, .ref oW, .ref oR, .ref oP, .ref oM, .ref oE])), (oI, .inr (6, [.ref aI, .int (nI ni)])), (oT, .inr (6, [.ref aT, .int (nI 0)])), (aI, nw_ai cB 60 ci), (oW, .inr (7, [.ref aW, .ref bW, .int (nI wn)])), (aW, nw_ai cB 12000 C), (bW, nw_ai cI 1001 st)]) [4, 5, 6, 0, 1, 2, 3] rfl
  have hD := hD.sub (ws' := [(oN, .inr (0, [.ref oT, .ref oI, .ref oW, .ref oR, .ref oP, .ref oM, .ref oE])), (oI, .inr (6, [.ref aI, .int (nI ni)])), (oT, .inr (6, [.ref aT, .int (nI 0)])), (aI, nw_ai cB 60 ci), (oW, .inr (7, [.ref aW, .ref bW, .int (nI wn)])), (aW, nw_ai cB 12000 C), (bW, nw_ai cI 1001 st)]) [4, 5, 6, 0, 1, 2, 3] (by decide) rfl
  refine lv_astore_n hx hb d_NW_remove_4 rfl hl (by decide) rfl (fun ls hl => ?_)
  replace hl : lv_has ls 3 [(1, .ref oI), (0, .ref oN)] := hl
  refine lv_aload_n hx hb d_NW_remove_5 rfl (lv_at hl 0 rfl) ?_
  refine vp_callSi (va_Run.run (va_runV (As := []) (rest := []) ⟨hx, hb, hml, hown, hts⟩ (c_Row_isEmpty l dC dI oI aI ni (by omega)) (cwV (C := R_Row) 0 hts (nw_GV (nw_m 64 rfl) (nw_m 65 rfl) (nw_m 66 rfl) (nw_m 5 rfl) (nw_m 67 rfl)) rfl rfl rfl (by decide +kernel) ⟨Nat.le_of_ble_eq_true rfl, Nat.le_of_ble_eq_true rfl⟩) (nw_preV (q0 := 1) (ci := 6) (q := (R_Row, F_Row, 2)) hK hP [1] [] rfl rfl rfl rfl) rfl rfl hl.1 rfl (lv_room (Nat.le_of_ble_eq_true rfl)) d_NW_remove_6 ⟨Nat.le_of_ble_eq_true rfl, Nat.le_of_ble_eq_true rfl⟩)) (fun r her => ?_)
  subst her
  refine nw_ti (y := nI 0) (congrArg nI (by rw [if_neg (by omega)])) ?_
  refine lv_if_eq hx hb d_NW_remove_9 (tgt := 20) (by decide) (fun a1 => ?_) (fun a1 => ?_)
  · rw [nw_eq0 (by omega)] at a1
    refine lv_aload_n hx hb d_NW_remove_20 rfl (lv_at hl 1 rfl) ?_
    refine va_get (D := (dC, dI)) (ci := 0) (v := .ref oW) (C := R_NW) (T := F_NW) (N := 7) hx hb hts hin_NW hown hK hP 0 rfl rfl 2 (by decide) (hts _ (nw_mc 15 rfl)) (fun _ h9 => h9) rfl d_NW_remove_21 ?_
    refine lv_aload_n hx hb d_NW_remove_24 rfl (lv_at hl 0 rfl) ?_
    refine vp_callSi (va_Run.run (va_runV (As := [.ref oI]) (rest := []) ⟨hx, hb, hml, hown, hts⟩ (c_WL_placeOf l dC dI cB cI oW aW bW wn C st oI aI ni ci hwn hni hm (fun j => Nat.lt_trans (hC j) (by decide)) (fun j => Nat.lt_trans (hci j) (by decide)) hmono) (cwV (C := R_WL) 1 hts (nw_GV (nw_m 68 rfl) (nw_m 69 rfl) (nw_m 70 rfl) (nw_m 12 rfl) (nw_m 71 rfl)) rfl rfl rfl (by decide +kernel) ⟨Nat.le_of_ble_eq_true rfl, Nat.le_of_ble_eq_true rfl⟩) (nw_preV (q0 := 4) (ci := 7) (q := (R_WL, F_WL, 3)) hK hP [4, 5, 6, 1, 3] [0, 1] rfl rfl rfl rfl) rfl rfl hl.1 rfl (lv_room (Nat.le_of_ble_eq_true rfl)) d_NW_remove_25 ⟨Nat.le_of_ble_eq_true rfl, Nat.le_of_ble_eq_true rfl⟩)) (fun r her => ?_)
    obtain ⟨p0, rfl, hp1, hp2, hp3⟩ := her
    have hpl : p0 = nw_cnt (fun i => nw_cm (fun k => C (st i + k)) (st (i + 1) - st i) ci ni < 0) wn := (nw_cnt_cut hp1 hp2 hp3).symm
    have hpp : p0 = pl := hpl.trans hpl0.symm
    subst hpp
    refine lv_istore_n hx hb d_NW_remove_28 rfl hl (by decide) rfl (fun ls hl => ?_)
    replace hl : lv_has ls 3 [(2, .int (nI p0)), (1, .ref oI), (0, .ref oN)] := hl
    refine lv_aload_n hx hb d_NW_remove_29 rfl (lv_at hl 2 rfl) ?_
    refine va_get (D := (dC, dI)) (ci := 0) (v := .ref oW) (C := R_NW) (T := F_NW) (N := 7) hx hb hts hin_NW hown hK hP 0 rfl rfl 2 (by decide) (hts _ (nw_mc 15 rfl)) (fun _ h9 => h9) rfl d_NW_remove_30 ?_
    refine lv_iload_n hx hb d_NW_remove_33 rfl (lv_at hl 0 rfl) ?_
    refine lv_aload_n hx hb d_NW_remove_34 rfl (lv_at hl 1 rfl) ?_
    refine vp_callSi (va_Run.run (va_runV (As := [.int (nI p0), .ref oI]) (rest := []) ⟨hx, hb, hml, hown, hts⟩ (c_WL_isAt l dC dI cB cI oW aW bW wn C st oI aI ni ci p0 (by omega) (by omega) (fun h => hm _ h) (by omega) (fun j => Nat.lt_trans (hC j) (by decide)) (fun j => Nat.lt_trans (hci j) (by decide))) (cwV (C := R_WL) 2 hts (nw_GV (nw_m 72 rfl) (nw_m 73 rfl) (nw_m 74 rfl) (nw_m 12 rfl) (nw_m 75 rfl)) rfl rfl rfl (by decide +kernel) ⟨Nat.le_of_ble_eq_true rfl, Nat.le_of_ble_eq_true rfl⟩) (nw_preV (q0 := 4) (ci := 7) (q := (R_WL, F_WL, 3)) hK hP [4, 5, 6, 1, 3] [0, 1] rfl rfl rfl rfl) rfl rfl hl.1 rfl (lv_room (Nat.le_of_ble_eq_true rfl)) d_NW_remove_35 ⟨Nat.le_of_ble_eq_true rfl, Nat.le_of_ble_eq_true rfl⟩)) (fun r her => ?_)
    rcases her with ⟨rfl, -⟩ | ⟨-, hn9⟩
    · refine lv_if_eq hx hb d_NW_remove_38 (tgt := 49) (by decide) (fun a2 => ?_) (fun a2 => ?_)
      · rw [nw_eq0 (by omega)] at a2
        omega
      · rw [nw_eq0 (by omega)] at a2
        refine lv_aload_n hx hb d_NW_remove_41 rfl (lv_at hl 2 rfl) ?_
        refine va_get (D := (dC, dI)) (ci := 0) (v := .ref oW) (C := R_NW) (T := F_NW) (N := 7) hx hb hts hin_NW hown hK hP 0 rfl rfl 2 (by decide) (hts _ (nw_mc 15 rfl)) (fun _ h9 => h9) rfl d_NW_remove_42 ?_
        refine lv_iload_n hx hb d_NW_remove_45 rfl (lv_at hl 0 rfl) ?_
        refine nw_callv (wc := [(oW, .inr (7, [.ref aW, .ref bW, .int (nI wn)])), (aW, nw_ai cB 12000 C), (bW, nw_ai cI 1001 st)]) (wr := [(oN, .inr (0, [.ref oT, .ref oI, .ref oW, .ref oR, .ref oP, .ref oM, .ref oE])), (oI, .inr (6, [.ref aI, .int (nI ni)])), (oT, .inr (6, [.ref aT, .int (nI 0)])), (aI, nw_ai cB 60 ci)]) hP hD hS hA [4, 5, 6] [0, 1, 2, 3] rfl rfl (by decide) (by decide) (va_runV (As := [.int (nI p0)]) (rest := []) ⟨hx, hb, hml, hown, hts⟩ (c_WL_deleteAt l dC dI _ cB cI oW aW bW wn C st p0 ho.1 hwn hmo hse (fun j => Nat.lt_trans (hC j) (by decide))) (cwV (C := R_WL) 1 hts (nw_GV (nw_m 88 rfl) (nw_m 89 rfl) (nw_m 90 rfl) (nw_m 12 rfl) (nw_m 91 rfl)) rfl rfl rfl (by decide +kernel) ⟨Nat.le_of_ble_eq_true rfl, Nat.le_of_ble_eq_true rfl⟩) (nw_prewV (q0 := 4) (ci := 7) (q := (R_WL, F_WL, 3)) hK hP hD [4, 5, 6] [0, 1] (by decide) rfl rfl rfl rfl) rfl rfl hl.1 rfl (lv_room (Nat.le_of_ble_eq_true rfl)) d_NW_remove_46 ⟨Nat.le_of_ble_eq_true rfl, Nat.le_of_ble_eq_true rfl⟩) (fun _ H locs hw hP hD hS => ?_)
        replace hP : va_P (dC, dI) nw_cls [(oN, .inr (0, [.ref oT, .ref oI, .ref oW, .ref oR, .ref oP, .ref oM, .ref oE])), (oI, .inr (6, [.ref aI, .int (nI ni)])), (oT, .inr (6, [.ref aT, .int (nI 0)])), (aI, nw_ai cB 60 ci), (oW, .inr (7, [.ref aW, .ref bW, .int (nI (wn - 1))])), (aW, nw_ai cB 12000 (va_cpy C C (st (p0 + 1)) (st p0) (st wn - st (p0 + 1)))), (bW, nw_ai cI 1001 (nw_del st p0 wn (st (p0 + 1) - st p0)))] H := hP
        replace hD : va_D A [(oN, .inr (0, [.ref oT, .ref oI, .ref oW, .ref oR, .ref oP, .ref oM, .ref oE])), (oI, .inr (6, [.ref aI, .int (nI ni)])), (oT, .inr (6, [.ref aT, .int (nI 0)])), (aI, nw_ai cB 60 ci), (oW, .inr (7, [.ref aW, .ref bW, .int (nI (wn - 1))])), (aW, nw_ai cB 12000 (va_cpy C C (st (p0 + 1)) (st p0) (st wn - st (p0 + 1)))), (bW, nw_ai cI 1001 (nw_del st p0 wn (st (p0 + 1) - st p0)))] := hD
        refine lv_aload_n hx hb d_NW_remove_49 rfl (lv_at hl 2 rfl) ?_
        refine va_get (D := (dC, dI)) (ci := 0) (v := .ref oW) (C := R_NW) (T := F_NW) (N := 7) hx hb hts hin_NW hown hK hP 0 rfl rfl 2 (by decide) (hts _ (nw_mc 15 rfl)) (fun _ h9 => h9) rfl d_NW_remove_50 ?_
        refine vp_callSi (va_Run.run (va_runV (As := []) (rest := []) ⟨hx, hb, hml, hown, hts⟩ (c_WL_size l dC dI oW aW bW (wn - 1)) (cwV (C := R_WL) 0 hts (nw_GV (nw_m 76 rfl) (nw_m 77 rfl) (nw_m 78 rfl) (nw_m 12 rfl) (nw_m 79 rfl)) rfl rfl rfl (by decide +kernel) ⟨Nat.le_of_ble_eq_true rfl, Nat.le_of_ble_eq_true rfl⟩) (nw_preV (q0 := 4) (ci := 7) (q := (R_WL, F_WL, 3)) hK hP [4] [] rfl rfl rfl rfl) rfl rfl hl.1 rfl (lv_room (Nat.le_of_ble_eq_true rfl)) d_NW_remove_53 ⟨Nat.le_of_ble_eq_true rfl, Nat.le_of_ble_eq_true rfl⟩)) (fun r her => ?_)
        subst her
        exact W.iret (v := nI (wn - 1)) hx hb hr (fun t ht hW => ⟨⟨_, (), rfl, rfl, by rw [ht]; exact hP, hD⟩, hS.F ht⟩) hS.2.2 d_NW_remove_56
    · exact absurd ho hn9
  · rw [nw_eq0 (by omega)] at a1
    omega
