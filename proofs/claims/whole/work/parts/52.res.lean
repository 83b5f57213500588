set_option maxHeartbeats 4000000 in
set_option maxRecDepth 100000 in
theorem c_Res_size (l : Launch) (dC : Nat → ClassId) (dI : Nat → Nat → Nat) (h aC aL aS n : Nat) : Met l y_Res_size w_Res_size ({ frames := 0, cells := 0, slots := 0, locals := 0 }) (nw_Pr [.ref h] (dC, dI) nw_cls [] [(h, .inr (5, [.ref aC, .ref aL, .ref aS, .int (nI n)]))]) (vp_Si (fun r => r = nI n)) 0 0 (fun _ => False) := by
  refine Met.ofW (cc := b_Res_size) (maxL := 1) (ret := (some .int)) (by decide) rfl ?_
  intro p e s m args below meth cd s₁ B hml hv0
  obtain ⟨rfl, hP, hK⟩ := hv0
  have hx := B.exec
  have hb := B.bytes
  have hr := B.returns
  have hts := atoms_spec (ws := w_Res_size) B.pre
  have hown : s.vm.findClass R_Res = some m.cls := findClass_of_methodNamed B.named
  have hlocks := B.notSynchronized
  have hl := lv_entry ([.ref h]) (n := 1) (Nat.le_of_ble_eq_true rfl)
  rw [lg_entry_eq]
  generalize (lg_sl ([.ref h]) ++ List.replicate (1 - (lg_sl ([.ref h])).length) Slot.unset).toArray = ls at hl ⊢
  have hl : lv_has ls 1 [(0, .ref h)] := hl
  refine lv_aload_n hx hb d_Res_size_0 rfl (lv_at hl 0 rfl) ?_
  refine va_get (D := (dC, dI)) (ci := 5) (v := .int (nI n)) (C := R_Res) (T := F_Res) (N := 4) hx hb hts hin_Res hown hK hP 0 rfl rfl 3 (by decide) (hts _ (nw_mc 297 rfl)) (fun _ h9 => h9) rfl d_Res_size_1 ?_
  exact W.iret (v := nI n) hx hb hr (fun t ht hW => ⟨_, rfl, rfl, ht⟩) (fun q hq => by cases hq) d_Res_size_4

set_option maxHeartbeats 4000000 in
set_option maxRecDepth 100000 in
theorem c_Res_clear (l : Launch) (dC : Nat → ClassId) (dI : Nat → Nat → Nat) (sz : Nat) (h aC aL aS n : Nat) : Met l y_Res_clear w_Res_clear ({ frames := 0, cells := 0, slots := 0, locals := 0 }) (nw_Pw [.ref h] (dC, dI) nw_cls [] [(h, .inr (5, [.ref aC, .ref aL, .ref aS, .int (nI n)]))] sz) (va_Qv (fun _ : Unit => True) (nw_B (dC, dI) nw_cls (va_A [(h, .inr (5, [.ref aC, .ref aL, .ref aS, .int (nI n)]))] sz) (fun _ : Unit => [(h, .inr (5, [.ref aC, .ref aL, .ref aS, .int (nI 0)]))])) (va_A [(h, .inr (5, [.ref aC, .ref aL, .ref aS, .int (nI n)]))] sz)) 0 0 (va_A [(h, .inr (5, [.ref aC, .ref aL, .ref aS, .int (nI n)]))] sz) := by
  refine Met.ofW (cc := b_Res_clear) (maxL := 1) (ret := none) (by decide) rfl ?_
  intro p e s m args below meth cd s₁ B hml hv0
  obtain ⟨rfl, hsz, hP, hK, hD0⟩ := hv0
  have hx := B.exec
  have hb := B.bytes
  have hr := B.returns
  have hts := atoms_spec (ws := w_Res_clear) B.pre
  have hown : s.vm.findClass R_Res = some m.cls := findClass_of_methodNamed B.named
  have hlocks := B.notSynchronized
  subst hsz
  have hD := hD0.self (sz := s.heap.size)
  generalize hAe : va_A [(h, .inr (5, [.ref aC, .ref aL, .ref aS, .int (nI n)]))] s.heap.size = A at hD ⊢
  have hA : ∀ q : Nat, s.heap.size ≤ q → A q := fun q h => by rw [← hAe]; exact Or.inr h
  have hS : va_S A s.heap s.heap [] := va_S.rf
  have hl := lv_entry ([.ref h]) (n := 1) (Nat.le_of_ble_eq_true rfl)
  rw [lg_entry_eq]
  generalize (lg_sl ([.ref h]) ++ List.replicate (1 - (lg_sl ([.ref h])).length) Slot.unset).toArray = ls at hl ⊢
  have hl : lv_has ls 1 [(0, .ref h)] := hl
  refine lv_aload_n hx hb d_Res_clear_0 rfl (lv_at hl 0 rfl) ?_
  refine lv_iconst (v := nI 0) hx hb d_Res_clear_1 (by decide) ?_
  refine va_put (D := (dC, dI)) (ci := 5) (v := .int (nI 0)) (ty := .int) (C := R_Res) (T := F_Res) (N := 4) hx hb hts hin_Res t_Res t_Res_ok n_Res hown hK hP hD hS 0 rfl rfl 3 (by decide) (hts _ (nw_mc 297 rfl)) (fun _ h9 => h9) rfl (by decide +kernel) rfl rfl (Nat.le_of_ble_eq_true rfl) d_Res_clear_2 (fun H locs hP hD hS => ?_)
  replace hP : va_P (dC, dI) nw_cls [(h, .inr (5, [.ref aC, .ref aL, .ref aS, .int (nI 0)]))] H := hP
  replace hD : va_D A [(h, .inr (5, [.ref aC, .ref aL, .ref aS, .int (nI 0)]))] := hD
  exact W.vret hx hb hr (fun t ht hW => ⟨⟨(), rfl, trivial, by rw [ht]; exact hP, hD⟩, hS.F ht⟩) hS.2.2 d_Res_clear_5

set_option maxHeartbeats 4000000 in
set_option maxRecDepth 100000 in
theorem c_Res_has (l : Launch) (dC : Nat → ClassId) (dI : Nat → Nat → Nat) (h aC aL aS n : Nat) (q : Int32) : Met l y_Res_has w_Res_has ({ frames := 0, cells := 0, slots := 0, locals := 0 }) (nw_Pr [.ref h, .int q] (dC, dI) nw_cls [] [(h, .inr (5, [.ref aC, .ref aL, .ref aS, .int (nI n)]))]) (vp_Si (fun r => r = nI (if q < 0 ∨ nI n ≤ q then 0 else 1))) 0 0 (fun _ => False) := by
  refine Met.ofW (cc := b_Res_has) (maxL := 2) (ret := (some .boolean)) (by decide) rfl ?_
  intro p e s m args below meth cd s₁ B hml hv0
  obtain ⟨rfl, hP, hK⟩ := hv0
  have hx := B.exec
  have hb := B.bytes
  have hr := B.returns
  have hts := atoms_spec (ws := w_Res_has) B.pre
  have hown : s.vm.findClass R_Res = some m.cls := findClass_of_methodNamed B.named
  have hlocks := B.notSynchronized
  have hl := lv_entry ([.ref h, .int q]) (n := 2) (Nat.le_of_ble_eq_true rfl)
  rw [lg_entry_eq]
  generalize (lg_sl ([.ref h, .int q]) ++ List.replicate (2 - (lg_sl ([.ref h, .int q])).length) Slot.unset).toArray = ls at hl ⊢
  have hl : lv_has ls 2 [(0, .ref h), (1, .int q)] := hl
  refine lv_iload_n hx hb d_Res_has_0 rfl (lv_at hl 1 rfl) ?_
  refine lv_if_lt hx hb d_Res_has_1 (tgt := 16) (by decide) (fun g1 => ?_) (fun g1 => ?_)
  · refine lv_iconst (v := nI 0) hx hb d_Res_has_16 (by decide) ?_
    exact W.zret (v := nI 0) hx hb hr rfl (fun t ht hW => ⟨_, rfl, by rw [if_pos (Or.inl g1)], ht⟩) (fun q hq => by cases hq) d_Res_has_17
  · refine lv_iload_n hx hb d_Res_has_4 rfl (lv_at hl 1 rfl) ?_
    refine lv_aload_n hx hb d_Res_has_5 rfl (lv_at hl 0 rfl) ?_
    refine va_get (D := (dC, dI)) (ci := 5) (v := .int (nI n)) (C := R_Res) (T := F_Res) (N := 4) hx hb hts hin_Res hown hK hP 0 rfl rfl 3 (by decide) (hts _ (nw_mc 297 rfl)) (fun _ h9 => h9) rfl d_Res_has_6 ?_
    refine lv_icmp_ge hx hb d_Res_has_9 (tgt := 16) (by decide) (fun g2 => ?_) (fun g2 => ?_)
    · refine lv_iconst (v := nI 0) hx hb d_Res_has_16 (by decide) ?_
      exact W.zret (v := nI 0) hx hb hr rfl (fun t ht hW => ⟨_, rfl, by rw [if_pos (Or.inr g2)], ht⟩) (fun q hq => by cases hq) d_Res_has_17
    · refine lv_iconst (v := nI 1) hx hb d_Res_has_12 (by decide) ?_
      refine lv_goto hx hb d_Res_has_13 (tgt := 17) (by decide) ?_
      exact W.zret (v := nI 1) hx hb hr rfl (fun t ht hW => ⟨_, rfl, by rw [if_neg (fun h => h.elim g1 g2)], ht⟩) (fun q hq => by cases hq) d_Res_has_17

set_option maxHeartbeats 4000000 in
set_option maxRecDepth 100000 in
theorem c_Res_stepsOf (l : Launch) (dC : Nat → ClassId) (dI : Nat → Nat → Nat) (cI : ClassId) (h aC aL aS n : Nat) (RD : Nat → Nat) (j : Nat) (hj : j < 50) : Met l y_Res_stepsOf w_Res_stepsOf ({ frames := 0, cells := 0, slots := 0, locals := 0 }) (nw_Pr [.ref h, .int (nI j)] (dC, dI) nw_cls [(cI, .int)] [(h, .inr (5, [.ref aC, .ref aL, .ref aS, .int (nI n)])), (aS, nw_ai cI 50 RD)]) (vp_Si (fun r => r = nI (RD j))) 0 0 (fun _ => False) := by
  refine Met.ofW (cc := b_Res_stepsOf) (maxL := 2) (ret := (some .int)) (by decide) rfl ?_
  intro p e s m args below meth cd s₁ B hml hv0
  obtain ⟨rfl, hP, hK⟩ := hv0
  have hx := B.exec
  have hb := B.bytes
  have hr := B.returns
  have hts := atoms_spec (ws := w_Res_stepsOf) B.pre
  have hown : s.vm.findClass R_Res = some m.cls := findClass_of_methodNamed B.named
  have hlocks := B.notSynchronized
  have hl := lv_entry ([.ref h, .int (nI j)]) (n := 2) (Nat.le_of_ble_eq_true rfl)
  rw [lg_entry_eq]
  generalize (lg_sl ([.ref h, .int (nI j)]) ++ List.replicate (2 - (lg_sl ([.ref h, .int (nI j)])).length) Slot.unset).toArray = ls at hl ⊢
  have hl : lv_has ls 2 [(0, .ref h), (1, .int (nI j))] := hl
  refine lv_aload_n hx hb d_Res_stepsOf_0 rfl (lv_at hl 0 rfl) ?_
  refine va_get (D := (dC, dI)) (ci := 5) (v := .ref aS) (C := R_Res) (T := F_Res) (N := 4) hx hb hts hin_Res hown hK hP 0 rfl rfl 2 (by decide) (hts _ (nw_mc 296 rfl)) (fun _ h9 => h9) rfl d_Res_stepsOf_1 ?_
  refine lv_iload_n hx hb d_Res_stepsOf_4 rfl (lv_at hl 1 rfl) ?_
  refine nw_iald hx hb hK hP 1 0 rfl rfl (k := j) (by omega) (by first | decide | omega) d_Res_stepsOf_5 ?_
  exact W.iret (v := nI (RD j)) hx hb hr (fun t ht hW => ⟨_, rfl, rfl, ht⟩) (fun q hq => by cases hq) d_Res_stepsOf_6

set_option maxHeartbeats 4000000 in
set_option maxRecDepth 100000 in
theorem c_Res_characterAt (l : Launch) (dC : Nat → ClassId) (dI : Nat → Nat → Nat) (cB cF cI : ClassId) (h aC aL aS n : Nat) (RL rz : Nat → Nat) (M : Nat → Nat → Nat) (pl : va_W) (j k : Nat) (hj : j < 50) (hk : k < 2 ^ 31) (hRL : RL j ≤ 60) : Met l y_Res_characterAt w_Res_characterAt ({ frames := 0, cells := 0, slots := 0, locals := 0 }) (nw_Pr [.ref h, .int (nI j), .int (nI k)] (dC, dI) nw_cls [(cB, .byte), (cF, (.array .byte)), (cI, .int)] ([(h, .inr (5, [.ref aC, .ref aL, .ref aS, .int (nI n)])), (aC, nw_ar cF 50 (fun k => some (rz k))), (aL, nw_ai cI 50 RL)] ++ (nw_rb 50 cB 60 rz M ++ pl))) (vp_Si (fun r => r = nI (if k < RL j then M j k else 0))) 0 0 (fun _ => False) := by
  refine Met.ofW (cc := b_Res_characterAt) (maxL := 3) (ret := (some .int)) (by decide) rfl ?_
  intro p e s m args below meth cd s₁ B hml hv0
  obtain ⟨rfl, hP, hK⟩ := hv0
  have hx := B.exec
  have hb := B.bytes
  have hr := B.returns
  have hts := atoms_spec (ws := w_Res_characterAt) B.pre
  have hown : s.vm.findClass R_Res = some m.cls := findClass_of_methodNamed B.named
  have hlocks := B.notSynchronized
  have hl := lv_entry ([.ref h, .int (nI j), .int (nI k)]) (n := 3) (Nat.le_of_ble_eq_true rfl)
  rw [lg_entry_eq]
  generalize (lg_sl ([.ref h, .int (nI j), .int (nI k)]) ++ List.replicate (3 - (lg_sl ([.ref h, .int (nI j), .int (nI k)])).length) Slot.unset).toArray = ls at hl ⊢
  have hl : lv_has ls 3 [(0, .ref h), (1, .int (nI j)), (2, .int (nI k))] := hl
  refine lv_iload_n hx hb d_Res_characterAt_0 rfl (lv_at hl 2 rfl) ?_
  refine lv_aload_n hx hb d_Res_characterAt_1 rfl (lv_at hl 0 rfl) ?_
  refine va_get (D := (dC, dI)) (ci := 5) (v := .ref aL) (C := R_Res) (T := F_Res) (N := 4) hx hb hts hin_Res hown hK hP 0 rfl rfl 1 (by decide) (hts _ (nw_mc 295 rfl)) (fun _ h9 => h9) rfl d_Res_characterAt_2 ?_
  refine lv_iload_n hx hb d_Res_characterAt_5 rfl (lv_at hl 1 rfl) ?_
  refine nw_iald hx hb hK hP 2 2 rfl rfl (k := j) (by omega) (by first | decide | omega) d_Res_characterAt_6 ?_
  refine lv_icmp_ge hx hb d_Res_characterAt_7 (tgt := 21) (by decide) (fun g1 => ?_) (fun g1 => ?_)
  · rw [nI_leI (by omega) (by omega)] at g1
    refine lv_iconst (v := nI 0) hx hb d_Res_characterAt_21 (by decide) ?_
    refine nw_ti (y := nI (if k < RL j then M j k else 0)) (congrArg nI (by rw [if_neg (by omega)])) ?_
    exact W.iret (v := nI (if k < RL j then M j k else 0)) hx hb hr (fun t ht hW => ⟨_, rfl, rfl, ht⟩) (fun q hq => by cases hq) d_Res_characterAt_22
  · rw [nI_leI (by omega) (by omega)] at g1
    refine lv_aload_n hx hb d_Res_characterAt_10 rfl (lv_at hl 0 rfl) ?_
    refine va_get (D := (dC, dI)) (ci := 5) (v := .ref aC) (C := R_Res) (T := F_Res) (N := 4) hx hb hts hin_Res hown hK hP 0 rfl rfl 0 (by decide) (hts _ (nw_mc 294 rfl)) (fun _ h9 => h9) rfl d_Res_characterAt_11 ?_
    refine lv_iload_n hx hb d_Res_characterAt_14 rfl (lv_at hl 1 rfl) ?_
    refine nw_aald hx hb hK hP 1 1 rfl rfl (k := j) (by omega) (by decide) rfl d_Res_characterAt_15 ?_
    refine lv_iload_n hx hb d_Res_characterAt_16 rfl (lv_at hl 2 rfl) ?_
    refine nw_rbld hx hb hK (k := j) (d := k) hP 0 rfl (by omega) (by omega) (by decide) d_Res_characterAt_17 ?_
    refine lv_goto hx hb d_Res_characterAt_18 (tgt := 22) (by decide) ?_
    refine nw_ti (y := nI (if k < RL j then M j k else 0)) (congrArg nI (by rw [if_pos (by omega)])) ?_
    exact W.iret (v := nI (if k < RL j then M j k else 0)) hx hb hr (fun t ht hW => ⟨_, rfl, rfl, ht⟩) (fun q hq => by cases hq) d_Res_characterAt_22

set_option maxHeartbeats 4000000 in
set_option maxRecDepth 100000 in
theorem c_WL_copyTo (l : Launch) (dC : Nat → ClassId) (dI : Nat → Nat → Nat) (sz : Nat) (cB cI : ClassId) (h a b n : Nat) (C st rz : Nat → Nat) (M : Nat → Nat → Nat) (pl : va_W) (i k : Nat) (hi : i < 1000) (hk : k < 50) (hm : st i ≤ st (i + 1) ∧ st (i + 1) ≤ 12000 ∧ st (i + 1) - st i ≤ 60) (hC : ∀ j, C j < 128) : Met l y_WL_copyTo w_WL_copyTo ({ frames := 1, cells := 0, slots := 0, locals := 21 }) (nw_Pw [.ref h, .ref (rz k), .int (nI i)] (dC, dI) nw_cls [(cB, .byte), (cI, .int)] ([(h, .inr (7, [.ref a, .ref b, .int (nI n)])), (a, nw_ai cB 12000 C), (b, nw_ai cI 1001 st)] ++ (nw_rb 50 cB 60 rz M ++ pl)) sz) (va_Qv (fun _ : Unit => True) (nw_B (dC, dI) nw_cls (va_A ([(h, .inr (7, [.ref a, .ref b, .int (nI n)])), (a, nw_ai cB 12000 C), (b, nw_ai cI 1001 st)] ++ (nw_rb 50 cB 60 rz M ++ pl)) sz) (fun _ : Unit => ([(h, .inr (7, [.ref a, .ref b, .int (nI n)])), (a, nw_ai cB 12000 C), (b, nw_ai cI 1001 st)] ++ (nw_rb 50 cB 60 rz (va_up M k (va_cpy C (M k) (st i) 0 (st (i + 1) - st i))) ++ pl)))) (va_A ([(h, .inr (7, [.ref a, .ref b, .int (nI n)])), (a, nw_ai cB 12000 C), (b, nw_ai cI 1001 st)] ++ (nw_rb 50 cB 60 rz M ++ pl)) sz)) 0 0 (va_A ([(h, .inr (7, [.ref a, .ref b, .int (nI n)])), (a, nw_ai cB 12000 C), (b, nw_ai cI 1001 st)] ++ (nw_rb 50 cB 60 rz M ++ pl)) sz) := by
  refine Met.ofW (cc := b_WL_copyTo) (maxL := 3) (ret := none) (by decide) rfl ?_
  intro p e s m args below meth cd s₁ B hml hv0
  obtain ⟨rfl, hsz, hP, hK, hD0⟩ := hv0
  have hx := B.exec
  have hb := B.bytes
  have hr := B.returns
  have hts := atoms_spec (ws := w_WL_copyTo) B.pre
  have hown : s.vm.findClass R_WL = some m.cls := findClass_of_methodNamed B.named
  have hlocks := B.notSynchronized
  subst hsz
  have hD := hD0.self (sz := s.heap.size)
  generalize hAe : va_A ([(h, .inr (7, [.ref a, .ref b, .int (nI n)])), (a, nw_ai cB 12000 C), (b, nw_ai cI 1001 st)] ++ (nw_rb 50 cB 60 rz M ++ pl)) s.heap.size = A at hD ⊢
  have hA : ∀ q : Nat, s.heap.size ≤ q → A q := fun q h => by rw [← hAe]; exact Or.inr h
  have hS : va_S A s.heap s.heap [] := va_S.rf
  have hl := lv_entry ([.ref h, .ref (rz k), .int (nI i)]) (n := 3) (Nat.le_of_ble_eq_true rfl)
  rw [lg_entry_eq]
  generalize (lg_sl ([.ref h, .ref (rz k), .int (nI i)]) ++ List.replicate (3 - (lg_sl ([.ref h, .ref (rz k), .int (nI i)])).length) Slot.unset).toArray = ls at hl ⊢
  have hl : lv_has ls 3 [(0, .ref h), (1, .ref (rz k)), (2, .int (nI i))] := hl
  obtain ⟨hm1, hm2, hm3⟩ := hm
  refine lv_aload_n hx hb d_WL_copyTo_0 rfl (lv_at hl 0 rfl) ?_
  refine va_get (D := (dC, dI)) (ci := 7) (v := .ref a) (C := R_WL) (T := F_WL) (N := 3) hx hb hts hin_WL hown hK hP 0 rfl rfl 0 (by decide) (hts _ (nw_mc 311 rfl)) (fun _ h9 => h9) rfl d_WL_copyTo_1 ?_
  refine lv_aload_n hx hb d_WL_copyTo_4 rfl (lv_at hl 0 rfl) ?_
  refine va_get (D := (dC, dI)) (ci := 7) (v := .ref b) (C := R_WL) (T := F_WL) (N := 3) hx hb hts hin_WL hown hK hP 0 rfl rfl 1 (by decide) (hts _ (nw_mc 312 rfl)) (fun _ h9 => h9) rfl d_WL_copyTo_5 ?_
  refine lv_iload_n hx hb d_WL_copyTo_8 rfl (lv_at hl 2 rfl) ?_
  refine nw_iald hx hb hK hP 2 1 rfl rfl (k := i) (by omega) (by first | decide | omega) d_WL_copyTo_9 ?_
  refine lv_aload_n hx hb d_WL_copyTo_10 rfl (lv_at hl 1 rfl) ?_
  refine lv_iconst (v := nI 0) hx hb d_WL_copyTo_11 (by decide) ?_
  refine lv_aload_n hx hb d_WL_copyTo_12 rfl (lv_at hl 0 rfl) ?_
  refine lv_iload_n hx hb d_WL_copyTo_13 rfl (lv_at hl 2 rfl) ?_
  refine vp_callSi (va_Run.run (va_runV (As := [.int (nI i)]) (rest := [.int (nI 0), .ref (rz k), .int (nI (st i)), .ref a]) ⟨hx, hb, hml, hown, hts⟩ (c_WL_lengthOf l dC dI cI h a b n st i (by omega) hm1) (cwV (C := R_WL) 1 hts (nw_GV (nw_m 314 rfl) (nw_m 101 rfl) (nw_m 102 rfl) (nw_m 12 rfl) (nw_m 103 rfl)) rfl rfl rfl (by decide +kernel) ⟨Nat.le_of_ble_eq_true rfl, Nat.le_of_ble_eq_true rfl⟩) (nw_preV (q0 := 0) (ci := 7) (q := (R_WL, F_WL, 3)) hK hP [0, 2] [1] rfl rfl rfl rfl) rfl rfl hl.1 rfl (lv_room (Nat.le_of_ble_eq_true rfl)) d_WL_copyTo_14 ⟨Nat.le_of_ble_eq_true rfl, Nat.le_of_ble_eq_true rfl⟩)) (fun r her => ?_)
  subst her
  refine nw_copyrb hx hb (hml.trans hl.1.symm) hown (hts _ (nw_mc 324 rfl)) (hts _ (nw_mc 307 rfl)) (hts _ (nw_mc 308 rfl)) (hts _ (nw_mc 309 rfl)) hK (k := k) hP hD hS 1 0 0 rfl hk rfl rfl (sp := (st i)) (dp := 0) (n := (st (i + 1) - st i)) (by omega) (by omega) (by decide) (by decide) (fun i _ => hC _) (Nat.le_of_ble_eq_true rfl) (Nat.le_of_ble_eq_true rfl) d_WL_copyTo_17 (fun H locs hP hD hS => ?_)
  replace hP : va_P (dC, dI) nw_cls ([(h, .inr (7, [.ref a, .ref b, .int (nI n)])), (a, nw_ai cB 12000 C), (b, nw_ai cI 1001 st)] ++ (nw_rb 50 cB 60 rz (va_up M k (va_cpy C (M k) (st i) 0 (st (i + 1) - st i))) ++ pl)) H := hP
  replace hD : va_D A ([(h, .inr (7, [.ref a, .ref b, .int (nI n)])), (a, nw_ai cB 12000 C), (b, nw_ai cI 1001 st)] ++ (nw_rb 50 cB 60 rz (va_up M k (va_cpy C (M k) (st i) 0 (st (i + 1) - st i))) ++ pl)) := hD
  exact W.vret hx hb hr (fun t ht hW => ⟨⟨(), rfl, trivial, by rw [ht]; exact hP, hD⟩, hS.F ht⟩) hS.2.2 d_WL_copyTo_20

set_option maxHeartbeats 4000000 in
set_option maxRecDepth 100000 in
theorem c_Res_keep_full (l : Launch) (dC : Nat → ClassId) (dI : Nat → Nat → Nat) (sz : Nat) (h aC aL aS n : Nat) (h1 i d : Nat) (hn : n = 50) : Met l y_Res_keep w_Res_keep ({ frames := 0, cells := 0, slots := 0, locals := 0 }) (nw_Pw [.ref h, .ref h1, .int (nI i), .int (nI d)] (dC, dI) nw_cls [] [(h, .inr (5, [.ref aC, .ref aL, .ref aS, .int (nI n)]))] sz) (va_Qv (fun _ : Unit => True) (nw_B (dC, dI) nw_cls (va_A [(h, .inr (5, [.ref aC, .ref aL, .ref aS, .int (nI n)]))] sz) (fun _ : Unit => [(h, .inr (5, [.ref aC, .ref aL, .ref aS, .int (nI n)]))])) (va_A [(h, .inr (5, [.ref aC, .ref aL, .ref aS, .int (nI n)]))] sz)) 0 0 (va_A [(h, .inr (5, [.ref aC, .ref aL, .ref aS, .int (nI n)]))] sz) := by
  refine Met.ofW (cc := b_Res_keep) (maxL := 4) (ret := none) (by decide) rfl ?_
  intro p e s m args below meth cd s₁ B hml hv0
  obtain ⟨rfl, hsz, hP, hK, hD0⟩ := hv0
  have hx := B.exec
  have hb := B.bytes
  have hr := B.returns
  have hts := atoms_spec (ws := w_Res_keep) B.pre
  have hown : s.vm.findClass R_Res = some m.cls := findClass_of_methodNamed B.named
  have hlocks := B.notSynchronized
  subst hsz
  have hD := hD0.self (sz := s.heap.size)
  generalize hAe : va_A [(h, .inr (5, [.ref aC, .ref aL, .ref aS, .int (nI n)]))] s.heap.size = A at hD ⊢
  have hA : ∀ q : Nat, s.heap.size ≤ q → A q := fun q h => by rw [← hAe]; exact Or.inr h
  have hS : va_S A s.heap s.heap [] := va_S.rf
  have hl := lv_entry ([.ref h, .ref h1, .int (nI i), .int (nI d)]) (n := 4) (Nat.le_of_ble_eq_true rfl)
  rw [lg_entry_eq]
  generalize (lg_sl ([.ref h, .ref h1, .int (nI i), .int (nI d)]) ++ List.replicate (4 - (lg_sl ([.ref h, .ref h1, .int (nI i), .int (nI d)])).length) Slot.unset).toArray = ls at hl ⊢
  have hl : lv_has ls 4 [(0, .ref h), (1, .ref h1), (2, .int (nI i)), (3, .int (nI d))] := hl
  refine lv_aload_n hx hb d_Res_keep_0 rfl (lv_at hl 0 rfl) ?_
  refine va_get (D := (dC, dI)) (ci := 5) (v := .int (nI n)) (C := R_Res) (T := F_Res) (N := 4) hx hb hts hin_Res hown hK hP 0 rfl rfl 3 (by decide) (hts _ (nw_mc 297 rfl)) (fun _ h9 => h9) rfl d_Res_keep_1 ?_
  refine lv_bipush (v := nI 50) hx hb d_Res_keep_4 (by decide) ?_
  refine lv_icmp_ge hx hb d_Res_keep_6 (tgt := 57) (by decide) (fun g1 => ?_) (fun g1 => ?_)
  · exact W.vret hx hb hr (fun t ht hW => ⟨⟨(), rfl, trivial, by rw [ht]; exact hP, hD⟩, hS.F ht⟩) hS.2.2 d_Res_keep_57
  · rw [nI_leI (by omega) (by omega)] at g1
    omega

set_option maxHeartbeats 4000000 in
set_option maxRecDepth 100000 in
theorem c_Res_keep (l : Launch) (dC : Nat → ClassId) (dI : Nat → Nat → Nat) (sz : Nat) (cB cF cI : ClassId) (h aC aL aS n : Nat) (RL RD rz : Nat → Nat) (M : Nat → Nat → Nat) (pl : va_W) (h1 a1 b1 n1 : Nat) (C st : Nat → Nat) (i d : Nat) (hn : n < 50) (hi : i < 1000) (hm : st i ≤ st (i + 1) ∧ st (i + 1) ≤ 12000 ∧ st (i + 1) - st i ≤ 60) (hC : ∀ j, C j < 128) : Met l y_Res_keep w_Res_keep ({ frames := 2, cells := 0, slots := 0, locals := 43 }) (nw_Pw [.ref h, .ref h1, .int (nI i), .int (nI d)] (dC, dI) nw_cls [(cB, .byte), (cF, (.array .byte)), (cI, .int)] ([(h, .inr (5, [.ref aC, .ref aL, .ref aS, .int (nI n)])), (aC, nw_ar cF 50 (fun k => some (rz k))), (aL, nw_ai cI 50 RL), (aS, nw_ai cI 50 RD), (h1, .inr (7, [.ref a1, .ref b1, .int (nI n1)])), (a1, nw_ai cB 12000 C), (b1, nw_ai cI 1001 st)] ++ (nw_rb 50 cB 60 rz M ++ pl)) sz) (va_Qv (fun _ : Unit => True) (nw_B (dC, dI) nw_cls (va_A ([(h, .inr (5, [.ref aC, .ref aL, .ref aS, .int (nI n)])), (aC, nw_ar cF 50 (fun k => some (rz k))), (aL, nw_ai cI 50 RL), (aS, nw_ai cI 50 RD), (h1, .inr (7, [.ref a1, .ref b1, .int (nI n1)])), (a1, nw_ai cB 12000 C), (b1, nw_ai cI 1001 st)] ++ (nw_rb 50 cB 60 rz M ++ pl)) sz) (fun _ : Unit => ([(h, .inr (5, [.ref aC, .ref aL, .ref aS, .int (nI (n + 1))])), (aC, nw_ar cF 50 (fun k => some (rz k))), (aL, nw_ai cI 50 (va_up RL n (st (i + 1) - st i))), (aS, nw_ai cI 50 (va_up RD n d)), (h1, .inr (7, [.ref a1, .ref b1, .int (nI n1)])), (a1, nw_ai cB 12000 C), (b1, nw_ai cI 1001 st)] ++ (nw_rb 50 cB 60 rz (va_up M n (va_cpy C (M n) (st i) 0 (st (i + 1) - st i))) ++ pl)))) (va_A ([(h, .inr (5, [.ref aC, .ref aL, .ref aS, .int (nI n)])), (aC, nw_ar cF 50 (fun k => some (rz k))), (aL, nw_ai cI 50 RL), (aS, nw_ai cI 50 RD), (h1, .inr (7, [.ref a1, .ref b1, .int (nI n1)])), (a1, nw_ai cB 12000 C), (b1, nw_ai cI 1001 st)] ++ (nw_rb 50 cB 60 rz M ++ pl)) sz)) 0 0 (va_A ([(h, .inr (5, [.ref aC, .ref aL, .ref aS, .int (nI n)])), (aC, nw_ar cF 50 (fun k => some (rz k))), (aL, nw_ai cI 50 RL), (aS, nw_ai cI 50 RD), (h1, .inr (7, [.ref a1, .ref b1, .int (nI n1)])), (a1, nw_ai cB 12000 C), (b1, nw_ai cI 1001 st)] ++ (nw_rb 50 cB 60 rz M ++ pl)) sz) := by
  refine Met.ofW (cc := b_Res_keep) (maxL := 4) (ret := none) (by decide) rfl ?_
  intro p e s m args below meth cd s₁ B hml hv0
  obtain ⟨rfl, hsz, hP, hK, hD0⟩ := hv0
  have hx := B.exec
  have hb := B.bytes
  have hr := B.returns
  have hts := atoms_spec (ws := w_Res_keep) B.pre
  have hown : s.vm.findClass R_Res = some m.cls := findClass_of_methodNamed B.named
  have hlocks := B.notSynchronized
  subst hsz
  have hD := hD0.self (sz := s.heap.size)
  generalize hAe : va_A ([(h, .inr (5, [.ref aC, .ref aL, .ref aS, .int (nI n)])), (aC, nw_ar cF 50 (fun k => some (rz k))), (aL, nw_ai cI 50 RL), (aS, nw_ai cI 50 RD), (h1, .inr (7, [.ref a1, .ref b1, .int (nI n1)])), (a1, nw_ai cB 12000 C), (b1, nw_ai cI 1001 st)] ++ (nw_rb 50 cB 60 rz M ++ pl)) s.heap.size = A at hD ⊢
  have hA : ∀ q : Nat, s.heap.size ≤ q → A q := fun q h => by rw [← hAe]; exact Or.inr h
  have hS : va_S A s.heap s.heap [] := va_S.rf
  have hl := lv_entry ([.ref h, .ref h1, .int (nI i), .int (nI d)]) (n := 4) (Nat.le_of_ble_eq_true rfl)
  rw [lg_entry_eq]
  generalize (lg_sl ([.ref h, .ref h1, .int (nI i), .int (nI d)]) ++ List.replicate (4 - (lg_sl ([.ref h, .ref h1, .int (nI i), .int (nI d)])).length) Slot.unset).toArray = ls at hl ⊢
  have hl : lv_has ls 4 [(0, .ref h), (1, .ref h1), (2, .int (nI i)), (3, .int (nI d))] := hl
  refine lv_aload_n hx hb d_Res_keep_0 rfl (lv_at hl 0 rfl) ?_
  refine va_get (D := (dC, dI)) (ci := 5) (v := .int (nI n)) (C := R_Res) (T := F_Res) (N := 4) hx hb hts hin_Res hown hK hP 0 rfl rfl 3 (by decide) (hts _ (nw_mc 297 rfl)) (fun _ h9 => h9) rfl d_Res_keep_1 ?_
  refine lv_bipush (v := nI 50) hx hb d_Res_keep_4 (by decide) ?_
  refine lv_icmp_ge hx hb d_Res_keep_6 (tgt := 57) (by decide) (fun g1 => ?_) (fun g1 => ?_)
  · rw [nI_leI (by omega) (by omega)] at g1
    omega
  · rw [nI_leI (by omega) (by omega)] at g1
    refine lv_aload_n hx hb d_Res_keep_9 rfl (lv_at hl 1 rfl) ?_
    refine lv_aload_n hx hb d_Res_keep_10 rfl (lv_at hl 0 rfl) ?_
    refine va_get (D := (dC, dI)) (ci := 5) (v := .ref aC) (C := R_Res) (T := F_Res) (N := 4) hx hb hts hin_Res hown hK hP 0 rfl rfl 0 (by decide) (hts _ (nw_mc 294 rfl)) (fun _ h9 => h9) rfl d_Res_keep_11 ?_
    refine lv_aload_n hx hb d_Res_keep_14 rfl (lv_at hl 0 rfl) ?_
    refine va_get (D := (dC, dI)) (ci := 5) (v := .int (nI n)) (C := R_Res) (T := F_Res) (N := 4) hx hb hts hin_Res hown hK hP 0 rfl rfl 3 (by decide) (hts _ (nw_mc 297 rfl)) (fun _ h9 => h9) rfl d_Res_keep_15 ?_
    refine nw_aald hx hb hK hP 1 1 rfl rfl (k := n) (by omega) (by decide) rfl d_Res_keep_18 ?_
    refine lv_iload_n hx hb d_Res_keep_19 rfl (lv_at hl 2 rfl) ?_
    refine nw_callvP (wc := [(h1, .inr (7, [.ref a1, .ref b1, .int (nI n1)])), (a1, nw_ai cB 12000 C), (b1, nw_ai cI 1001 st)]) (wr := [(h, .inr (5, [.ref aC, .ref aL, .ref aS, .int (nI n)])), (aC, nw_ar cF 50 (fun k => some (rz k))), (aL, nw_ai cI 50 RL), (aS, nw_ai cI 50 RD)]) hP hD hS hA [4, 5, 6] [0, 1, 2, 3] rfl rfl (by decide) (by decide) (va_runV (As := [.ref (rz n), .int (nI i)]) (rest := []) ⟨hx, hb, hml, hown, hts⟩ (c_WL_copyTo l dC dI _ cB cI h1 a1 b1 n1 C st rz M pl i n (by omega) (by omega) hm hC) (cwV (C := R_WL) 2 hts (nw_GV (nw_m 298 rfl) (nw_m 299 rfl) (nw_m 300 rfl) (nw_m 12 rfl) (nw_m 301 rfl)) rfl rfl rfl (by decide +kernel) ⟨Nat.le_of_ble_eq_true rfl, Nat.le_of_ble_eq_true rfl⟩) (nw_prewVP (q0 := 4) (ci := 7) (q := (R_WL, F_WL, 3)) hK hP hD [4, 5, 6] [0, 2] (by decide) rfl rfl rfl rfl) rfl rfl hl.1 rfl (lv_room (Nat.le_of_ble_eq_true rfl)) d_Res_keep_20 ⟨Nat.le_of_ble_eq_true rfl, Nat.le_of_ble_eq_true rfl⟩) (fun _ H locs hw hP hD hS => ?_)
    replace hP : va_P (dC, dI) nw_cls ([(h, .inr (5, [.ref aC, .ref aL, .ref aS, .int (nI n)])), (aC, nw_ar cF 50 (fun k => some (rz k))), (aL, nw_ai cI 50 RL), (aS, nw_ai cI 50 RD), (h1, .inr (7, [.ref a1, .ref b1, .int (nI n1)])), (a1, nw_ai cB 12000 C), (b1, nw_ai cI 1001 st)] ++ (nw_rb 50 cB 60 rz (va_up M n (va_cpy C (M n) (st i) 0 (st (i + 1) - st i))) ++ pl)) H := hP
    replace hD : va_D A ([(h, .inr (5, [.ref aC, .ref aL, .ref aS, .int (nI n)])), (aC, nw_ar cF 50 (fun k => some (rz k))), (aL, nw_ai cI 50 RL), (aS, nw_ai cI 50 RD), (h1, .inr (7, [.ref a1, .ref b1, .int (nI n1)])), (a1, nw_ai cB 12000 C), (b1, nw_ai cI 1001 st)] ++ (nw_rb 50 cB 60 rz (va_up M n (va_cpy C (M n) (st i) 0 (st (i + 1) - st i))) ++ pl)) := hD
    refine lv_aload_n hx hb d_Res_keep_23 rfl (lv_at hl 0 rfl) ?_
    refine va_get (D := (dC, dI)) (ci := 5) (v := .ref aL) (C := R_Res) (T := F_Res) (N := 4) hx hb hts hin_Res hown hK hP 0 rfl rfl 1 (by decide) (hts _ (nw_mc 295 rfl)) (fun _ h9 => h9) rfl d_Res_keep_24 ?_
    refine lv_aload_n hx hb d_Res_keep_27 rfl (lv_at hl 0 rfl) ?_
    refine va_get (D := (dC, dI)) (ci := 5) (v := .int (nI n)) (C := R_Res) (T := F_Res) (N := 4) hx hb hts hin_Res hown hK hP 0 rfl rfl 3 (by decide) (hts _ (nw_mc 297 rfl)) (fun _ h9 => h9) rfl d_Res_keep_28 ?_
    refine lv_aload_n hx hb d_Res_keep_31 rfl (lv_at hl 1 rfl) ?_
    refine lv_iload_n hx hb d_Res_keep_32 rfl (lv_at hl 2 rfl) ?_
    refine vp_callSi (va_Run.run (va_runV (As := [.int (nI i)]) (rest := [.int (nI n), .ref aL]) ⟨hx, hb, hml, hown, hts⟩ (c_WL_lengthOf l dC dI cI h1 a1 b1 n1 st i (by omega) hm.1) (cwV (C := R_WL) 1 hts (nw_GV (nw_m 302 rfl) (nw_m 101 rfl) (nw_m 102 rfl) (nw_m 12 rfl) (nw_m 103 rfl)) rfl rfl rfl (by decide +kernel) ⟨Nat.le_of_ble_eq_true rfl, Nat.le_of_ble_eq_true rfl⟩) (nw_preV (q0 := 4) (ci := 7) (q := (R_WL, F_WL, 3)) hK hP [4, 6] [2] rfl rfl rfl rfl) rfl rfl hl.1 rfl (lv_room (Nat.le_of_ble_eq_true rfl)) d_Res_keep_33 ⟨Nat.le_of_ble_eq_true rfl, Nat.le_of_ble_eq_true rfl⟩)) (fun r her => ?_)
    subst her
    refine nw_iast hx hb hK hP hD hS 2 2 rfl rfl (k := n) (v := (st (i + 1) - st i)) (by omega) (by first | decide | omega) d_Res_keep_36 (fun H locs hP hD hS => ?_)
    replace hP : va_P (dC, dI) nw_cls ([(h, .inr (5, [.ref aC, .ref aL, .ref aS, .int (nI n)])), (aC, nw_ar cF 50 (fun k => some (rz k))), (aL, nw_ai cI 50 (va_up RL n (st (i + 1) - st i))), (aS, nw_ai cI 50 RD), (h1, .inr (7, [.ref a1, .ref b1, .int (nI n1)])), (a1, nw_ai cB 12000 C), (b1, nw_ai cI 1001 st)] ++ (nw_rb 50 cB 60 rz (va_up M n (va_cpy C (M n) (st i) 0 (st (i + 1) - st i))) ++ pl)) H := hP
    replace hD : va_D A ([(h, .inr (5, [.ref aC, .ref aL, .ref aS, .int (nI n)])), (aC, nw_ar cF 50 (fun k => some (rz k))), (aL, nw_ai cI 50 (va_up RL n (st (i + 1) - st i))), (aS, nw_ai cI 50 RD), (h1, .inr (7, [.ref a1, .ref b1, .int (nI n1)])), (a1, nw_ai cB 12000 C), (b1, nw_ai cI 1001 st)] ++ (nw_rb 50 cB 60 rz (va_up M n (va_cpy C (M n) (st i) 0 (st (i + 1) - st i))) ++ pl)) := hD
    refine lv_aload_n hx hb d_Res_keep_37 rfl (lv_at hl 0 rfl) ?_
    refine va_get (D := (dC, dI)) (ci := 5) (v := .ref aS) (C := R_Res) (T := F_Res) (N := 4) hx hb hts hin_Res hown hK hP 0 rfl rfl 2 (by decide) (hts _ (nw_mc 296 rfl)) (fun _ h9 => h9) rfl d_Res_keep_38 ?_
    refine lv_aload_n hx hb d_Res_keep_41 rfl (lv_at hl 0 rfl) ?_
    refine va_get (D := (dC, dI)) (ci := 5) (v := .int (nI n)) (C := R_Res) (T := F_Res) (N := 4) hx hb hts hin_Res hown hK hP 0 rfl rfl 3 (by decide) (hts _ (nw_mc 297 rfl)) (fun _ h9 => h9) rfl d_Res_keep_42 ?_
    refine lv_iload_n hx hb d_Res_keep_45 rfl (lv_at hl 3 rfl) ?_
    refine nw_iast hx hb hK hP hD hS 3 2 rfl rfl (k := n) (v := d) (by omega) (by first | decide | omega) d_Res_keep_46 (fun H locs hP hD hS => ?_)
    replace hP : va_P (dC, dI) nw_cls ([(h, .inr (5, [.ref aC, .ref aL, .ref aS, .int (nI n)])), (aC, nw_ar cF 50 (fun k => some (rz k))), (aL, nw_ai cI 50 (va_up RL n (st (i + 1) - st i))), (aS, nw_ai cI 50 (va_up RD n d)), (h1, .inr (7, [.ref a1, .ref b1, .int (nI n1)])), (a1, nw_ai cB 12000 C), (b1, nw_ai cI 1001 st)] ++ (nw_rb 50 cB 60 rz (va_up M n (va_cpy C (M n) (st i) 0 (st (i + 1) - st i))) ++ pl)) H := hP
    replace hD : va_D A ([(h, .inr (5, [.ref aC, .ref aL, .ref aS, .int (nI n)])), (aC, nw_ar cF 50 (fun k => some (rz k))), (aL, nw_ai cI 50 (va_up RL n (st (i + 1) - st i))), (aS, nw_ai cI 50 (va_up RD n d)), (h1, .inr (7, [.ref a1, .ref b1, .int (nI n1)])), (a1, nw_ai cB 12000 C), (b1, nw_ai cI 1001 st)] ++ (nw_rb 50 cB 60 rz (va_up M n (va_cpy C (M n) (st i) 0 (st (i + 1) - st i))) ++ pl)) := hD
    refine lv_aload_n hx hb d_Res_keep_47 rfl (lv_at hl 0 rfl) ?_
    refine lv_dup hx hb d_Res_keep_48 rfl ?_
    refine va_get (D := (dC, dI)) (ci := 5) (v := .int (nI n)) (C := R_Res) (T := F_Res) (N := 4) hx hb hts hin_Res hown hK hP 0 rfl rfl 3 (by decide) (hts _ (nw_mc 297 rfl)) (fun _ h9 => h9) rfl d_Res_keep_49 ?_
    refine lv_iconst (v := nI 1) hx hb d_Res_keep_52 (by decide) ?_
    refine lv_iadd hx hb d_Res_keep_53 ?_
    refine nw_ti (nI_add n 1) ?_
    refine va_put (D := (dC, dI)) (ci := 5) (v := .int (nI (n + 1))) (ty := .int) (C := R_Res) (T := F_Res) (N := 4) hx hb hts hin_Res t_Res t_Res_ok n_Res hown hK hP hD hS 0 rfl rfl 3 (by decide) (hts _ (nw_mc 297 rfl)) (fun _ h9 => h9) rfl (by decide +kernel) rfl rfl (Nat.le_of_ble_eq_true rfl) d_Res_keep_54 (fun H locs hP hD hS => ?_)
    replace hP : va_P (dC, dI) nw_cls ([(h, .inr (5, [.ref aC, .ref aL, .ref aS, .int (nI (n + 1))])), (aC, nw_ar cF 50 (fun k => some (rz k))), (aL, nw_ai cI 50 (va_up RL n (st (i + 1) - st i))), (aS, nw_ai cI 50 (va_up RD n d)), (h1, .inr (7, [.ref a1, .ref b1, .int (nI n1)])), (a1, nw_ai cB 12000 C), (b1, nw_ai cI 1001 st)] ++ (nw_rb 50 cB 60 rz (va_up M n (va_cpy C (M n) (st i) 0 (st (i + 1) - st i))) ++ pl)) H := hP
    replace hD : va_D A ([(h, .inr (5, [.ref aC, .ref aL, .ref aS, .int (nI (n + 1))])), (aC, nw_ar cF 50 (fun k => some (rz k))), (aL, nw_ai cI 50 (va_up RL n (st (i + 1) - st i))), (aS, nw_ai cI 50 (va_up RD n d)), (h1, .inr (7, [.ref a1, .ref b1, .int (nI n1)])), (a1, nw_ai cB 12000 C), (b1, nw_ai cI 1001 st)] ++ (nw_rb 50 cB 60 rz (va_up M n (va_cpy C (M n) (st i) 0 (st (i + 1) - st i))) ++ pl)) := hD
    exact W.vret hx hb hr (fun t ht hW => ⟨⟨(), rfl, trivial, by rw [ht]; exact hP, hD⟩, hS.F ht⟩) hS.2.2 d_Res_keep_57
