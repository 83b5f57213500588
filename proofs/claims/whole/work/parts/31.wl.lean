set_option maxHeartbeats 4000000 in
set_option maxRecDepth 100000 in
theorem c_WL_size (l : Launch) (dC : Nat → ClassId) (dI : Nat → Nat → Nat) (h a b n : Nat) : Met l y_WL_size w_WL_size ({ frames := 0, cells := 0, slots := 0, locals := 0 }) (nw_Pr [.ref h] (dC, dI) nw_cls [] [(h, .inr (7, [.ref a, .ref b, .int (nI n)]))]) (vp_Si (fun r => r = nI n)) 0 0 (fun _ => False) := by
  refine Met.ofW (cc := b_WL_size) (maxL := 1) (ret := (some .int)) (by decide) rfl ?_
  intro p e s m args below meth cd s₁ B hml hv0
  obtain ⟨rfl, hP, hK⟩ := hv0
  have hx := B.exec
  have hb := B.bytes
  have hr := B.returns
  have hts := atoms_spec (ws := w_WL_size) B.pre
  have hown : s.vm.findClass R_WL = some m.cls := findClass_of_methodNamed B.named
  have hlocks := B.notSynchronized
  have hl := lv_entry ([.ref h]) (n := 1) (Nat.le_of_ble_eq_true rfl)
  rw [lg_entry_eq]
  generalize (lg_sl ([.ref h]) ++ List.replicate (1 - (lg_sl ([.ref h])).length) Slot.unset).toArray = ls at hl ⊢
  have hl : lv_has ls 1 [(0, .ref h)] := hl
  refine lv_aload_n hx hb d_WL_size_0 rfl (lv_at hl 0 rfl) ?_
  refine va_get (D := (dC, dI)) (ci := 7) (v := .int (nI n)) (C := R_WL) (T := F_WL) (N := 3) hx hb hts hin_WL hown hK hP 0 rfl rfl 2 (by decide) (hts _ (nw_mc 313 rfl)) (fun _ h9 => h9) rfl d_WL_size_1 ?_
  exact W.iret (v := nI n) hx hb hr (fun t ht hW => ⟨_, rfl, rfl, ht⟩) (fun q hq => by cases hq) d_WL_size_4

set_option maxHeartbeats 4000000 in
set_option maxRecDepth 100000 in
theorem c_WL_characters (l : Launch) (dC : Nat → ClassId) (dI : Nat → Nat → Nat) (cI : ClassId) (h a b n : Nat) (st : Nat → Nat) (hn : n ≤ 1000) : Met l y_WL_characters w_WL_characters ({ frames := 0, cells := 0, slots := 0, locals := 0 }) (nw_Pr [.ref h] (dC, dI) nw_cls [(cI, .int)] [(h, .inr (7, [.ref a, .ref b, .int (nI n)])), (b, nw_ai cI 1001 st)]) (vp_Si (fun r => r = nI (st n))) 0 0 (fun _ => False) := by
  refine Met.ofW (cc := b_WL_characters) (maxL := 1) (ret := (some .int)) (by decide) rfl ?_
  intro p e s m args below meth cd s₁ B hml hv0
  obtain ⟨rfl, hP, hK⟩ := hv0
  have hx := B.exec
  have hb := B.bytes
  have hr := B.returns
  have hts := atoms_spec (ws := w_WL_characters) B.pre
  have hown : s.vm.findClass R_WL = some m.cls := findClass_of_methodNamed B.named
  have hlocks := B.notSynchronized
  have hl := lv_entry ([.ref h]) (n := 1) (Nat.le_of_ble_eq_true rfl)
  rw [lg_entry_eq]
  generalize (lg_sl ([.ref h]) ++ List.replicate (1 - (lg_sl ([.ref h])).length) Slot.unset).toArray = ls at hl ⊢
  have hl : lv_has ls 1 [(0, .ref h)] := hl
  refine lv_aload_n hx hb d_WL_characters_0 rfl (lv_at hl 0 rfl) ?_
  refine va_get (D := (dC, dI)) (ci := 7) (v := .ref b) (C := R_WL) (T := F_WL) (N := 3) hx hb hts hin_WL hown hK hP 0 rfl rfl 1 (by decide) (hts _ (nw_mc 312 rfl)) (fun _ h9 => h9) rfl d_WL_characters_1 ?_
  refine lv_aload_n hx hb d_WL_characters_4 rfl (lv_at hl 0 rfl) ?_
  refine va_get (D := (dC, dI)) (ci := 7) (v := .int (nI n)) (C := R_WL) (T := F_WL) (N := 3) hx hb hts hin_WL hown hK hP 0 rfl rfl 2 (by decide) (hts _ (nw_mc 313 rfl)) (fun _ h9 => h9) rfl d_WL_characters_5 ?_
  refine nw_iald hx hb hK hP 1 0 rfl rfl (k := n) (by omega) (by first | decide | omega) d_WL_characters_8 ?_
  exact W.iret (v := nI (st n)) hx hb hr (fun t ht hW => ⟨_, rfl, rfl, ht⟩) (fun q hq => by cases hq) d_WL_characters_9

set_option maxHeartbeats 4000000 in
set_option maxRecDepth 100000 in
theorem c_WL_lengthOf (l : Launch) (dC : Nat → ClassId) (dI : Nat → Nat → Nat) (cI : ClassId) (h a b n : Nat) (st : Nat → Nat) (i : Nat) (hi : i < 1000) (hm : st i ≤ st (i + 1)) : Met l y_WL_lengthOf w_WL_lengthOf ({ frames := 0, cells := 0, slots := 0, locals := 0 }) (nw_Pr [.ref h, .int (nI i)] (dC, dI) nw_cls [(cI, .int)] [(h, .inr (7, [.ref a, .ref b, .int (nI n)])), (b, nw_ai cI 1001 st)]) (vp_Si (fun r => r = nI (st (i + 1) - st i))) 0 0 (fun _ => False) := by
  refine Met.ofW (cc := b_WL_lengthOf) (maxL := 2) (ret := (some .int)) (by decide) rfl ?_
  intro p e s m args below meth cd s₁ B hml hv0
  obtain ⟨rfl, hP, hK⟩ := hv0
  have hx := B.exec
  have hb := B.bytes
  have hr := B.returns
  have hts := atoms_spec (ws := w_WL_lengthOf) B.pre
  have hown : s.vm.findClass R_WL = some m.cls := findClass_of_methodNamed B.named
  have hlocks := B.notSynchronized
  have hl := lv_entry ([.ref h, .int (nI i)]) (n := 2) (Nat.le_of_ble_eq_true rfl)
  rw [lg_entry_eq]
  generalize (lg_sl ([.ref h, .int (nI i)]) ++ List.replicate (2 - (lg_sl ([.ref h, .int (nI i)])).length) Slot.unset).toArray = ls at hl ⊢
  have hl : lv_has ls 2 [(0, .ref h), (1, .int (nI i))] := hl
  refine lv_aload_n hx hb d_WL_lengthOf_0 rfl (lv_at hl 0 rfl) ?_
  refine va_get (D := (dC, dI)) (ci := 7) (v := .ref b) (C := R_WL) (T := F_WL) (N := 3) hx hb hts hin_WL hown hK hP 0 rfl rfl 1 (by decide) (hts _ (nw_mc 312 rfl)) (fun _ h9 => h9) rfl d_WL_lengthOf_1 ?_
  refine lv_iload_n hx hb d_WL_lengthOf_4 rfl (lv_at hl 1 rfl) ?_
  refine lv_iconst (v := nI 1) hx hb d_WL_lengthOf_5 (by decide) ?_
  refine lv_iadd hx hb d_WL_lengthOf_6 ?_
  refine nw_ti (nI_add i 1) ?_
  refine nw_iald hx hb hK hP 1 0 rfl rfl (k := (i + 1)) (by omega) (by first | decide | omega) d_WL_lengthOf_7 ?_
  refine lv_aload_n hx hb d_WL_lengthOf_8 rfl (lv_at hl 0 rfl) ?_
  refine va_get (D := (dC, dI)) (ci := 7) (v := .ref b) (C := R_WL) (T := F_WL) (N := 3) hx hb hts hin_WL hown hK hP 0 rfl rfl 1 (by decide) (hts _ (nw_mc 312 rfl)) (fun _ h9 => h9) rfl d_WL_lengthOf_9 ?_
  refine lv_iload_n hx hb d_WL_lengthOf_12 rfl (lv_at hl 1 rfl) ?_
  refine nw_iald hx hb hK hP 1 0 rfl rfl (k := i) (by omega) (by first | decide | omega) d_WL_lengthOf_13 ?_
  refine lv_isub hx hb d_WL_lengthOf_14 ?_
  refine nw_ti (pk_sub (a := (st (i + 1))) (b := (st i)) (by omega)) ?_
  exact W.iret (v := nI ((st (i + 1)) - (st i))) hx hb hr (fun t ht hW => ⟨_, rfl, rfl, ht⟩) (fun q hq => by cases hq) d_WL_lengthOf_15

set_option maxHeartbeats 4000000 in
set_option maxRecDepth 100000 in
theorem c_WL_at (l : Launch) (dC : Nat → ClassId) (dI : Nat → Nat → Nat) (cB cI : ClassId) (h a b n : Nat) (C st : Nat → Nat) (i k : Nat) (hi : i < 1001) (hk : st i + k < 12000) : Met l y_WL_at w_WL_at ({ frames := 0, cells := 0, slots := 0, locals := 0 }) (nw_Pr [.ref h, .int (nI i), .int (nI k)] (dC, dI) nw_cls [(cB, .byte), (cI, .int)] [(h, .inr (7, [.ref a, .ref b, .int (nI n)])), (a, nw_ai cB 12000 C), (b, nw_ai cI 1001 st)]) (vp_Si (fun r => r = nI (C (st i + k)))) 0 0 (fun _ => False) := by
  refine Met.ofW (cc := b_WL_at) (maxL := 3) (ret := (some .int)) (by decide) rfl ?_
  intro p e s m args below meth cd s₁ B hml hv0
  obtain ⟨rfl, hP, hK⟩ := hv0
  have hx := B.exec
  have hb := B.bytes
  have hr := B.returns
  have hts := atoms_spec (ws := w_WL_at) B.pre
  have hown : s.vm.findClass R_WL = some m.cls := findClass_of_methodNamed B.named
  have hlocks := B.notSynchronized
  have hl := lv_entry ([.ref h, .int (nI i), .int (nI k)]) (n := 3) (Nat.le_of_ble_eq_true rfl)
  rw [lg_entry_eq]
  generalize (lg_sl ([.ref h, .int (nI i), .int (nI k)]) ++ List.replicate (3 - (lg_sl ([.ref h, .int (nI i), .int (nI k)])).length) Slot.unset).toArray = ls at hl ⊢
  have hl : lv_has ls 3 [(0, .ref h), (1, .int (nI i)), (2, .int (nI k))] := hl
  refine lv_aload_n hx hb d_WL_at_0 rfl (lv_at hl 0 rfl) ?_
  refine va_get (D := (dC, dI)) (ci := 7) (v := .ref a) (C := R_WL) (T := F_WL) (N := 3) hx hb hts hin_WL hown hK hP 0 rfl rfl 0 (by decide) (hts _ (nw_mc 311 rfl)) (fun _ h9 => h9) rfl d_WL_at_1 ?_
  refine lv_aload_n hx hb d_WL_at_4 rfl (lv_at hl 0 rfl) ?_
  refine va_get (D := (dC, dI)) (ci := 7) (v := .ref b) (C := R_WL) (T := F_WL) (N := 3) hx hb hts hin_WL hown hK hP 0 rfl rfl 1 (by decide) (hts _ (nw_mc 312 rfl)) (fun _ h9 => h9) rfl d_WL_at_5 ?_
  refine lv_iload_n hx hb d_WL_at_8 rfl (lv_at hl 1 rfl) ?_
  refine nw_iald hx hb hK hP 2 1 rfl rfl (k := i) (by omega) (by first | decide | omega) d_WL_at_9 ?_
  refine lv_iload_n hx hb d_WL_at_10 rfl (lv_at hl 2 rfl) ?_
  refine lv_iadd hx hb d_WL_at_11 ?_
  refine nw_ti (nI_add (st i) k) ?_
  refine nw_bald hx hb hK hP 1 0 rfl rfl (k := ((st i) + k)) (by omega) (by first | decide | omega) d_WL_at_12 ?_
  exact W.iret (v := nI (C ((st i) + k))) hx hb hr (fun t ht hW => ⟨_, rfl, rfl, ht⟩) (fun q hq => by cases hq) d_WL_at_13

set_option maxHeartbeats 4000000 in
set_option maxRecDepth 100000 in
theorem c_WL_longest (l : Launch) (dC : Nat → ClassId) (dI : Nat → Nat → Nat) (cI : ClassId) (h a b n : Nat) (st : Nat → Nat) (hn : n ≤ 1000) (hm : ∀ i, i < n → st i ≤ st (i + 1) ∧ st (i + 1) - st i < 1000) : Met l y_WL_longest w_WL_longest ({ frames := 1, cells := 0, slots := 0, locals := 21 }) (nw_Pr [.ref h] (dC, dI) nw_cls [(cI, .int)] [(h, .inr (7, [.ref a, .ref b, .int (nI n)])), (b, nw_ai cI 1001 st)]) (vp_Si (fun r => r = nI (nw_mx (fun i => st (i + 1) - st i) n))) 0 0 (fun _ => False) := by
  refine Met.ofW (cc := b_WL_longest) (maxL := 3) (ret := (some .int)) (by decide) rfl ?_
  intro p e s m args below meth cd s₁ B hml hv0
  obtain ⟨rfl, hP, hK⟩ := hv0
  have hx := B.exec
  have hb := B.bytes
  have hr := B.returns
  have hts := atoms_spec (ws := w_WL_longest) B.pre
  have hown : s.vm.findClass R_WL = some m.cls := findClass_of_methodNamed B.named
  have hlocks := B.notSynchronized
  have hl := lv_entry ([.ref h]) (n := 3) (Nat.le_of_ble_eq_true rfl)
  rw [lg_entry_eq]
  generalize (lg_sl ([.ref h]) ++ List.replicate (3 - (lg_sl ([.ref h])).length) Slot.unset).toArray = ls at hl ⊢
  have hl : lv_has ls 3 [(0, .ref h)] := hl
  refine lv_iconst (v := nI 0) hx hb d_WL_longest_0 (by decide) ?_
  refine lv_istore_n hx hb d_WL_longest_1 rfl hl (by decide) rfl (fun ls hl => ?_)
  replace hl : lv_has ls 3 [(1, .int (nI 0)), (0, .ref h)] := hl
  refine lv_iconst (v := nI 0) hx hb d_WL_longest_2 (by decide) ?_
  refine lv_istore_n hx hb d_WL_longest_3 rfl hl (by decide) rfl (fun ls hl => ?_)
  replace hl : lv_has ls 3 [(2, .int (nI 0)), (1, .int (nI 0)), (0, .ref h)] := hl
  refine nw_loopR (σ := Nat) (fun k => k ≤ n) (fun k => [(2, .int (nI k)), (1, .int (nI (nw_mx (fun i => st (i + 1) - st i) k))), (0, .ref h)]) (fun k => n - k) (fun x hI ih ls hl => ?_) 0 (Nat.zero_le _) hl
  obtain ⟨k, hx9⟩ : ∃ z, z = x := ⟨x, rfl⟩
  subst hx9
  replace hI : k ≤ n := hI
  replace hl : lv_has ls 3 [(2, .int (nI k)), (1, .int (nI (nw_mx (fun i => st (i + 1) - st i) k))), (0, .ref h)] := hl
  have hb1 := nw_mx_lt (f := fun i => st (i + 1) - st i) (n := k) (b := 1000) (by decide) (fun i hi => (hm i (by omega)).2)
  refine lv_iload_n hx hb d_WL_longest_4 rfl (lv_at hl 0 rfl) ?_
  refine lv_aload_n hx hb d_WL_longest_5 rfl (lv_at hl 2 rfl) ?_
  refine va_get (D := (dC, dI)) (ci := 7) (v := .int (nI n)) (C := R_WL) (T := F_WL) (N := 3) hx hb hts hin_WL hown hK hP 0 rfl rfl 2 (by decide) (hts _ (nw_mc 313 rfl)) (fun _ h9 => h9) rfl d_WL_longest_6 ?_
  refine lv_icmp_ge hx hb d_WL_longest_9 (tgt := 28) (by decide) (fun hc => ?_) (fun hc => ?_)
  · rw [nI_leI (by omega) (by omega)] at hc
    refine lv_iload_n hx hb d_WL_longest_28 rfl (lv_at hl 1 rfl) ?_
    exact W.iret (v := nI (nw_mx (fun i => st (i + 1) - st i) k)) hx hb hr (fun t ht hW => ⟨_, rfl, by rw [show k = n by omega], ht⟩) (fun q hq => by cases hq) d_WL_longest_29
  · rw [nI_leI (by omega) (by omega)] at hc
    refine lv_iload_n hx hb d_WL_longest_12 rfl (lv_at hl 1 rfl) ?_
    refine lv_aload_n hx hb d_WL_longest_13 rfl (lv_at hl 2 rfl) ?_
    refine lv_iload_n hx hb d_WL_longest_14 rfl (lv_at hl 0 rfl) ?_
    have hk := hm k (by omega)
    refine vp_callSi (va_Run.run (va_runV (As := [.int (nI k)]) (rest := [.int (nI (nw_mx (fun i => st (i + 1) - st i) k))]) ⟨hx, hb, hml, hown, hts⟩ (c_WL_lengthOf l dC dI cI h a b n st k (by omega) hk.1) (cwV (C := R_WL) 1 hts (nw_GV (nw_m 314 rfl) (nw_m 101 rfl) (nw_m 102 rfl) (nw_m 12 rfl) (nw_m 103 rfl)) rfl rfl rfl (by decide +kernel) ⟨Nat.le_of_ble_eq_true rfl, Nat.le_of_ble_eq_true rfl⟩) (nw_preV (q0 := 0) (ci := 7) (q := (R_WL, F_WL, 3)) hK hP [0, 1] [0] rfl rfl rfl rfl) rfl rfl hl.1 rfl (lv_room (Nat.le_of_ble_eq_true rfl)) d_WL_longest_15 ⟨Nat.le_of_ble_eq_true rfl, Nat.le_of_ble_eq_true rfl⟩)) (fun r her => ?_)
    subst her
    refine va_mmax hx hb (hml.trans hl.1.symm) hown (hts _ (nw_mc 315 rfl)) (hts _ (nw_mc 316 rfl)) (hts _ (nw_mc 106 rfl)) (hts _ (nw_mc 317 rfl)) (Nat.le_of_ble_eq_true rfl) (Nat.le_of_ble_eq_true rfl) (Nat.le_of_ble_eq_true rfl) (Nat.le_of_ble_eq_true rfl) d_WL_longest_18 ?_
    refine nw_ti (y := nI (nw_mx (fun i => st (i + 1) - st i) (k + 1))) (nw_imax (by omega) (by omega)) ?_
    refine lv_istore_n hx hb d_WL_longest_21 rfl hl (by decide) rfl (fun ls hl => ?_)
    replace hl : lv_has ls 3 [(1, .int (nI (nw_mx (fun i => st (i + 1) - st i) (k + 1)))), (2, .int (nI k)), (0, .ref h)] := hl
    refine lv_iinc (v := nI (k + 1)) hx hb d_WL_longest_22 hl (k := 1) rfl (nI_add k 1) (by decide) rfl (fun ls hl => ?_)
    have hl : lv_has ls 3 [(2, .int (nI (k + 1))), (1, .int (nI (nw_mx (fun i => st (i + 1) - st i) (k + 1)))), (0, .ref h)] := hl
    refine lv_goto hx hb d_WL_longest_25 (tgt := 4) (by decide) ?_
    exact ih (k + 1) (by omega) (show n - (k + 1) < n - k by omega) _ hl

set_option maxHeartbeats 4000000 in
set_option maxRecDepth 100000 in
theorem c_WL_compare (l : Launch) (dC : Nat → ClassId) (dI : Nat → Nat → Nat) (cB cI : ClassId) (h a b n : Nat) (C st : Nat → Nat) (h2 a2 n2 : Nat) (c2 : Nat → Nat) (i : Nat) (hi : i < 1000) (hm : st i ≤ st (i + 1) ∧ st (i + 1) ≤ 12000 ∧ st (i + 1) - st i ≤ 60) (hn : n2 ≤ 60) (hC : ∀ j, C j < 128) (hc : ∀ j, c2 j < 128) : Met l y_WL_compare w_WL_compare ({ frames := 1, cells := 0, slots := 0, locals := 22 }) (nw_Pr [.ref h, .int (nI i), .ref h2] (dC, dI) nw_cls [(cB, .byte), (cI, .int)] [(h, .inr (7, [.ref a, .ref b, .int (nI n)])), (a, nw_ai cB 12000 C), (b, nw_ai cI 1001 st), (h2, .inr (6, [.ref a2, .int (nI n2)])), (a2, nw_ai cB 60 c2)]) (vp_Si (fun r => r = nw_cm (fun k => C (st i + k)) (st (i + 1) - st i) c2 n2)) 0 0 (fun _ => False) := by
  refine Met.ofW (cc := b_WL_compare) (maxL := 6) (ret := (some .int)) (by decide) rfl ?_
  intro p e s m args below meth cd s₁ B hml hv0
  obtain ⟨rfl, hP, hK⟩ := hv0
  have hx := B.exec
  have hb := B.bytes
  have hr := B.returns
  have hts := atoms_spec (ws := w_WL_compare) B.pre
  have hown : s.vm.findClass R_WL = some m.cls := findClass_of_methodNamed B.named
  have hlocks := B.notSynchronized
  have hl := lv_entry ([.ref h, .int (nI i), .ref h2]) (n := 6) (Nat.le_of_ble_eq_true rfl)
  rw [lg_entry_eq]
  generalize (lg_sl ([.ref h, .int (nI i), .ref h2]) ++ List.replicate (6 - (lg_sl ([.ref h, .int (nI i), .ref h2])).length) Slot.unset).toArray = ls at hl ⊢
  have hl : lv_has ls 6 [(0, .ref h), (1, .int (nI i)), (2, .ref h2)] := hl
  refine lv_aload_n hx hb d_WL_compare_0 rfl (lv_at hl 0 rfl) ?_
  refine lv_iload_n hx hb d_WL_compare_1 rfl (lv_at hl 1 rfl) ?_
  refine vp_callSi (va_Run.run (va_runV (As := [.int (nI i)]) (rest := []) ⟨hx, hb, hml, hown, hts⟩ (c_WL_lengthOf l dC dI cI h a b n st i (by omega) hm.1) (cwV (C := R_WL) 1 hts (nw_GV (nw_m 314 rfl) (nw_m 101 rfl) (nw_m 102 rfl) (nw_m 12 rfl) (nw_m 103 rfl)) rfl rfl rfl (by decide +kernel) ⟨Nat.le_of_ble_eq_true rfl, Nat.le_of_ble_eq_true rfl⟩) (nw_preV (q0 := 0) (ci := 7) (q := (R_WL, F_WL, 3)) hK hP [0, 2] [1] rfl rfl rfl rfl) rfl rfl hl.1 rfl (lv_room (Nat.le_of_ble_eq_true rfl)) d_WL_compare_2 ⟨Nat.le_of_ble_eq_true rfl, Nat.le_of_ble_eq_true rfl⟩)) (fun r her => ?_)
  subst her
  refine lv_istore_n hx hb d_WL_compare_5 rfl hl (by decide) rfl (fun ls hl => ?_)
  replace hl : lv_has ls 6 [(3, .int (nI (st (i + 1) - st i))), (0, .ref h), (1, .int (nI i)), (2, .ref h2)] := hl
  refine lv_iload_n hx hb d_WL_compare_6 rfl (lv_at hl 0 rfl) ?_
  refine lv_aload_n hx hb d_WL_compare_7 rfl (lv_at hl 3 rfl) ?_
  refine vp_callSi (va_Run.run (va_runV (As := []) (rest := [.int (nI (st (i + 1) - st i))]) ⟨hx, hb, hml, hown, hts⟩ (c_Row_length l dC dI h2 a2 n2) (cwV (C := R_Row) 0 hts (nw_GV (nw_m 323 rfl) (nw_m 48 rfl) (nw_m 49 rfl) (nw_m 5 rfl) (nw_m 50 rfl)) rfl rfl rfl (by decide +kernel) ⟨Nat.le_of_ble_eq_true rfl, Nat.le_of_ble_eq_true rfl⟩) (nw_preV (q0 := 3) (ci := 6) (q := (R_Row, F_Row, 2)) hK hP [3] [] rfl rfl rfl rfl) rfl rfl hl.1 rfl (lv_room (Nat.le_of_ble_eq_true rfl)) d_WL_compare_8 ⟨Nat.le_of_ble_eq_true rfl, Nat.le_of_ble_eq_true rfl⟩)) (fun r her => ?_)
  subst her
  refine va_mmin hx hb (hml.trans hl.1.symm) hown (hts _ (nw_mc 329 rfl)) (hts _ (nw_mc 105 rfl)) (hts _ (nw_mc 106 rfl)) (hts _ (nw_mc 107 rfl)) (Nat.le_of_ble_eq_true rfl) (Nat.le_of_ble_eq_true rfl) (Nat.le_of_ble_eq_true rfl) (Nat.le_of_ble_eq_true rfl) d_WL_compare_11 ?_
  refine nw_ti (y := nI (min (st (i + 1) - st i) n2)) (nw_imin (by omega) (by omega)) ?_
  refine lv_istore hx hb d_WL_compare_14 hl (by decide) rfl (fun ls hl => ?_)
  replace hl : lv_has ls 6 [(4, .int (nI (min (st (i + 1) - st i) n2))), (3, .int (nI (st (i + 1) - st i))), (0, .ref h), (1, .int (nI i)), (2, .ref h2)] := hl
  refine lv_iconst (v := nI 0) hx hb d_WL_compare_16 (by decide) ?_
  refine lv_istore hx hb d_WL_compare_17 hl (by decide) rfl (fun ls hl => ?_)
  replace hl : lv_has ls 6 [(5, .int (nI 0)), (4, .int (nI (min (st (i + 1) - st i) n2))), (3, .int (nI (st (i + 1) - st i))), (0, .ref h), (1, .int (nI i)), (2, .ref h2)] := hl
  refine nw_loopR (σ := Nat) (fun k => k ≤ min (st (i + 1) - st i) n2 ∧ nw_cm (fun k => C (st i + k)) (st (i + 1) - st i) c2 n2 = nw_cmp (fun k => C (st i + k)) c2 (st (i + 1) - st i) n2 (min (st (i + 1) - st i) n2 - k) k) (fun k => [(5, .int (nI k)), (4, .int (nI (min (st (i + 1) - st i) n2))), (3, .int (nI (st (i + 1) - st i))), (0, .ref h), (1, .int (nI i)), (2, .ref h2)]) (fun k => min (st (i + 1) - st i) n2 - k) (fun x hI ih ls hl => ?_) 0 (⟨Nat.zero_le _, rfl⟩) hl
  obtain ⟨k, hx9⟩ : ∃ z, z = x := ⟨x, rfl⟩
  subst hx9
  replace hI : k ≤ min (st (i + 1) - st i) n2 ∧ nw_cm (fun k => C (st i + k)) (st (i + 1) - st i) c2 n2 = nw_cmp (fun k => C (st i + k)) c2 (st (i + 1) - st i) n2 (min (st (i + 1) - st i) n2 - k) k := hI
  replace hl : lv_has ls 6 [(5, .int (nI k)), (4, .int (nI (min (st (i + 1) - st i) n2))), (3, .int (nI (st (i + 1) - st i))), (0, .ref h), (1, .int (nI i)), (2, .ref h2)] := hl
  obtain ⟨hk, he⟩ := hI
  refine lv_iload hx hb d_WL_compare_19 (lv_at hl 0 rfl) ?_
  refine lv_iload hx hb d_WL_compare_21 (lv_at hl 1 rfl) ?_
  refine lv_icmp_ge hx hb d_WL_compare_23 (tgt := 63) (by decide) (fun hc1 => ?_) (fun hc1 => ?_)
  · rw [nI_leI (by omega) (by omega)] at hc1
    refine lv_iload_n hx hb d_WL_compare_63 rfl (lv_at hl 2 rfl) ?_
    refine lv_aload_n hx hb d_WL_compare_64 rfl (lv_at hl 5 rfl) ?_
    refine vp_callSi (va_Run.run (va_runV (As := []) (rest := [.int (nI (st (i + 1) - st i))]) ⟨hx, hb, hml, hown, hts⟩ (c_Row_length l dC dI h2 a2 n2) (cwV (C := R_Row) 0 hts (nw_GV (nw_m 323 rfl) (nw_m 48 rfl) (nw_m 49 rfl) (nw_m 5 rfl) (nw_m 50 rfl)) rfl rfl rfl (by decide +kernel) ⟨Nat.le_of_ble_eq_true rfl, Nat.le_of_ble_eq_true rfl⟩) (nw_preV (q0 := 3) (ci := 6) (q := (R_Row, F_Row, 2)) hK hP [3] [] rfl rfl rfl rfl) rfl rfl hl.1 rfl (lv_room (Nat.le_of_ble_eq_true rfl)) d_WL_compare_65 ⟨Nat.le_of_ble_eq_true rfl, Nat.le_of_ble_eq_true rfl⟩)) (fun r her => ?_)
    subst her
    refine lv_isub hx hb d_WL_compare_68 ?_
    exact W.iret (v := (nI (st (i + 1) - st i)) - (nI n2)) hx hb hr (fun t ht hW => ⟨_, rfl, by rw [he, nw_cmp_end (by omega)], ht⟩) (fun q hq => by cases hq) d_WL_compare_69
  · rw [nI_leI (by omega) (by omega)] at hc1
    refine lv_aload_n hx hb d_WL_compare_26 rfl (lv_at hl 3 rfl) ?_
    refine lv_iload_n hx hb d_WL_compare_27 rfl (lv_at hl 4 rfl) ?_
    refine lv_iload hx hb d_WL_compare_28 (lv_at hl 0 rfl) ?_
    refine vp_callSi (va_Run.run (va_runV (As := [.int (nI i), .int (nI k)]) (rest := []) ⟨hx, hb, hml, hown, hts⟩ (c_WL_at l dC dI cB cI h a b n C st i k (by omega) (by omega)) (cwV (C := R_WL) 2 hts (nw_GV (nw_m 330 rfl) (nw_m 246 rfl) (nw_m 247 rfl) (nw_m 12 rfl) (nw_m 248 rfl)) rfl rfl rfl (by decide +kernel) ⟨Nat.le_of_ble_eq_true rfl, Nat.le_of_ble_eq_true rfl⟩) (nw_preV (q0 := 0) (ci := 7) (q := (R_WL, F_WL, 3)) hK hP [0, 1, 2] [0, 1] rfl rfl rfl rfl) rfl rfl hl.1 rfl (lv_room (Nat.le_of_ble_eq_true rfl)) d_WL_compare_30 ⟨Nat.le_of_ble_eq_true rfl, Nat.le_of_ble_eq_true rfl⟩)) (fun r her => ?_)
    subst her
    refine lv_aload_n hx hb d_WL_compare_33 rfl (lv_at hl 5 rfl) ?_
    refine lv_iload hx hb d_WL_compare_34 (lv_at hl 0 rfl) ?_
    refine vp_callSi (va_Run.run (va_runV (As := [.int (nI k)]) (rest := [.int (nI (C (st i + k)))]) ⟨hx, hb, hml, hown, hts⟩ (c_Row_at l dC dI cB h2 a2 n2 c2 k (by omega)) (cwV (C := R_Row) 1 hts (nw_GV (nw_m 331 rfl) (nw_m 238 rfl) (nw_m 239 rfl) (nw_m 5 rfl) (nw_m 240 rfl)) rfl rfl rfl (by decide +kernel) ⟨Nat.le_of_ble_eq_true rfl, Nat.le_of_ble_eq_true rfl⟩) (nw_preV (q0 := 3) (ci := 6) (q := (R_Row, F_Row, 2)) hK hP [3, 4] [0] rfl rfl rfl rfl) rfl rfl hl.1 rfl (lv_room (Nat.le_of_ble_eq_true rfl)) d_WL_compare_36 ⟨Nat.le_of_ble_eq_true rfl, Nat.le_of_ble_eq_true rfl⟩)) (fun r her => ?_)
    subst her
    by_cases hq : C (st i + k) = c2 k
    · refine lv_icmp_eq hx hb d_WL_compare_39 (tgt := 57) (by decide) (fun _ => ?_) (fun hc2 => absurd (congrArg nI hq) hc2)
      refine lv_iinc (v := nI (k + 1)) hx hb d_WL_compare_57 hl (k := 0) rfl (nI_add k 1) (by decide) rfl (fun ls hl => ?_)
      have hl : lv_has ls 6 [(5, .int (nI (k + 1))), (4, .int (nI (min (st (i + 1) - st i) n2))), (3, .int (nI (st (i + 1) - st i))), (0, .ref h), (1, .int (nI i)), (2, .ref h2)] := hl
      refine lv_goto hx hb d_WL_compare_60 (tgt := 19) (by decide) ?_
      exact ih (k + 1) (⟨by omega, by rw [he, nw_cmp_step (by omega) hq]⟩) (show min (st (i + 1) - st i) n2 - (k + 1) < min (st (i + 1) - st i) n2 - k by omega) _ hl
    · refine lv_icmp_eq hx hb d_WL_compare_39 (tgt := 57) (by decide) (fun hc2 => ?_) (fun _ => ?_)
      · exact absurd ((nI_eq (nw_big (hC _)) (nw_big (hc _))).mp hc2) hq
      refine lv_aload_n hx hb d_WL_compare_42 rfl (lv_at hl 3 rfl) ?_
      refine lv_iload_n hx hb d_WL_compare_43 rfl (lv_at hl 4 rfl) ?_
      refine lv_iload hx hb d_WL_compare_44 (lv_at hl 0 rfl) ?_
      refine vp_callSi (va_Run.run (va_runV (As := [.int (nI i), .int (nI k)]) (rest := []) ⟨hx, hb, hml, hown, hts⟩ (c_WL_at l dC dI cB cI h a b n C st i k (by omega) (by omega)) (cwV (C := R_WL) 2 hts (nw_GV (nw_m 330 rfl) (nw_m 246 rfl) (nw_m 247 rfl) (nw_m 12 rfl) (nw_m 248 rfl)) rfl rfl rfl (by decide +kernel) ⟨Nat.le_of_ble_eq_true rfl, Nat.le_of_ble_eq_true rfl⟩) (nw_preV (q0 := 0) (ci := 7) (q := (R_WL, F_WL, 3)) hK hP [0, 1, 2] [0, 1] rfl rfl rfl rfl) rfl rfl hl.1 rfl (lv_room (Nat.le_of_ble_eq_true rfl)) d_WL_compare_46 ⟨Nat.le_of_ble_eq_true rfl, Nat.le_of_ble_eq_true rfl⟩)) (fun r her => ?_)
      subst her
      refine lv_aload_n hx hb d_WL_compare_49 rfl (lv_at hl 5 rfl) ?_
      refine lv_iload hx hb d_WL_compare_50 (lv_at hl 0 rfl) ?_
      refine vp_callSi (va_Run.run (va_runV (As := [.int (nI k)]) (rest := [.int (nI (C (st i + k)))]) ⟨hx, hb, hml, hown, hts⟩ (c_Row_at l dC dI cB h2 a2 n2 c2 k (by omega)) (cwV (C := R_Row) 1 hts (nw_GV (nw_m 331 rfl) (nw_m 238 rfl) (nw_m 239 rfl) (nw_m 5 rfl) (nw_m 240 rfl)) rfl rfl rfl (by decide +kernel) ⟨Nat.le_of_ble_eq_true rfl, Nat.le_of_ble_eq_true rfl⟩) (nw_preV (q0 := 3) (ci := 6) (q := (R_Row, F_Row, 2)) hK hP [3, 4] [0] rfl rfl rfl rfl) rfl rfl hl.1 rfl (lv_room (Nat.le_of_ble_eq_true rfl)) d_WL_compare_52 ⟨Nat.le_of_ble_eq_true rfl, Nat.le_of_ble_eq_true rfl⟩)) (fun r her => ?_)
      subst her
      refine lv_isub hx hb d_WL_compare_55 ?_
      exact W.iret (v := (nI (C (st i + k))) - (nI (c2 k))) hx hb hr (fun t ht hW => ⟨_, rfl, by rw [he, nw_cmp_stop (by omega) hq], ht⟩) (fun q hq => by cases hq) d_WL_compare_56

set_option maxHeartbeats 4000000 in
set_option maxRecDepth 100000 in
theorem c_WL_placeOf (l : Launch) (dC : Nat → ClassId) (dI : Nat → Nat → Nat) (cB cI : ClassId) (h a b n : Nat) (C st : Nat → Nat) (h2 a2 n2 : Nat) (c2 : Nat → Nat) (hn0 : n ≤ 1000) (hn : n2 ≤ 60) (hm : ∀ i, i < n → st i ≤ st (i + 1) ∧ st (i + 1) ≤ 12000 ∧ st (i + 1) - st i ≤ 60) (hC : ∀ j, C j < 128) (hc : ∀ j, c2 j < 128) (hmono : ∀ i j, i < j → j < n → nw_cm (fun k => C (st j + k)) (st (j + 1) - st j) c2 n2 < 0 → nw_cm (fun k => C (st i + k)) (st (i + 1) - st i) c2 n2 < 0) : Met l y_WL_placeOf w_WL_placeOf ({ frames := 2, cells := 0, slots := 0, locals := 47 }) (nw_Pr [.ref h, .ref h2] (dC, dI) nw_cls [(cB, .byte), (cI, .int)] [(h, .inr (7, [.ref a, .ref b, .int (nI n)])), (a, nw_ai cB 12000 C), (b, nw_ai cI 1001 st), (h2, .inr (6, [.ref a2, .int (nI n2)])), (a2, nw_ai cB 60 c2)]) (vp_Si (fun r => ∃ p, r = nI p ∧ p ≤ n ∧ (∀ i, i < p → nw_cm (fun k => C (st i + k)) (st (i + 1) - st i) c2 n2 < 0) ∧ ∀ i, p ≤ i → i < n → ¬ nw_cm (fun k => C (st i + k)) (st (i + 1) - st i) c2 n2 < 0)) 0 0 (fun _ => False) := by
  refine Met.ofW (cc := b_WL_placeOf) (maxL := 4) (ret := (some .int)) (by decide) rfl ?_
  intro p e s m args below meth cd s₁ B hml hv0
  obtain ⟨rfl, hP, hK⟩ := hv0
  have hx := B.exec
  have hb := B.bytes
  have hr := B.returns
  have hts := atoms_spec (ws := w_WL_placeOf) B.pre
  have hown : s.vm.findClass R_WL = some m.cls := findClass_of_methodNamed B.named
  have hlocks := B.notSynchronized
  have hl := lv_entry ([.ref h, .ref h2]) (n := 4) (Nat.le_of_ble_eq_true rfl)
  rw [lg_entry_eq]
  generalize (lg_sl ([.ref h, .ref h2]) ++ List.replicate (4 - (lg_sl ([.ref h, .ref h2])).length) Slot.unset).toArray = ls at hl ⊢
  have hl : lv_has ls 4 [(0, .ref h), (1, .ref h2)] := hl
  refine lv_iconst (v := nI 0) hx hb d_WL_placeOf_0 (by decide) ?_
  refine lv_istore_n hx hb d_WL_placeOf_1 rfl hl (by decide) rfl (fun ls hl => ?_)
  replace hl : lv_has ls 4 [(2, .int (nI 0)), (0, .ref h), (1, .ref h2)] := hl
  refine lv_sipush (v := nI 512) hx hb d_WL_placeOf_2 (by decide) ?_
  refine lv_istore_n hx hb d_WL_placeOf_5 rfl hl (by decide) rfl (fun ls hl => ?_)
  replace hl : lv_has ls 4 [(3, .int (nI 512)), (2, .int (nI 0)), (0, .ref h), (1, .ref h2)] := hl
  refine nw_loopR (σ := Nat × Nat) (fun x => match x with | (k, pl) => k ≤ 10 ∧ pl ≤ n ∧ (∀ i, i < pl → nw_cm (fun k => C (st i + k)) (st (i + 1) - st i) c2 n2 < 0) ∧ ∀ i, pl + (2 ^ k - 1) ≤ i → i < n → ¬ nw_cm (fun k => C (st i + k)) (st (i + 1) - st i) c2 n2 < 0) (fun x => match x with | (k, pl) => [(3, .int (nI (2 ^ k / 2))), (2, .int (nI pl)), (1, .ref h2), (0, .ref h)]) (fun x => match x with | (k, pl) => k) (fun x hI ih ls hl => ?_) (10, 0) (⟨Nat.le_refl _, Nat.zero_le _, fun i h => absurd h (Nat.not_lt_zero i), fun i h1 h2 => by omega⟩) (lv_sub hl [0, 1, 3, 2] rfl)
  obtain ⟨k, pl⟩ := x
  replace hI : k ≤ 10 ∧ pl ≤ n ∧ (∀ i, i < pl → nw_cm (fun k => C (st i + k)) (st (i + 1) - st i) c2 n2 < 0) ∧ ∀ i, pl + (2 ^ k - 1) ≤ i → i < n → ¬ nw_cm (fun k => C (st i + k)) (st (i + 1) - st i) c2 n2 < 0 := hI
  replace hl : lv_has ls 4 [(3, .int (nI (2 ^ k / 2))), (2, .int (nI pl)), (1, .ref h2), (0, .ref h)] := hl
  obtain ⟨hk, hpl, ha, hz⟩ := hI
  rcases Nat.eq_zero_or_pos k with hk0 | hk0
  · subst hk0
    have hl : lv_has ls 4 [(3, .int (nI 0)), (2, .int (nI pl)), (1, .ref h2), (0, .ref h)] := hl
    refine lv_iload_n hx hb d_WL_placeOf_6 rfl (lv_at hl 0 rfl) ?_
    refine lv_if_le hx hb d_WL_placeOf_7 (tgt := 44) (by decide) (fun hc1 => ?_) (fun hc1 => ?_)
    · rw [nw_le0 (by omega)] at hc1
      refine lv_iload_n hx hb d_WL_placeOf_44 rfl (lv_at hl 1 rfl) ?_
      exact W.iret (v := nI pl) hx hb hr (fun t ht hW => ⟨_, rfl, ⟨pl, rfl, hpl, ha, fun i h1 h2 => hz i (by simpa using h1) h2⟩, ht⟩) (fun q hq => by cases hq) d_WL_placeOf_45
    · rw [nw_le0 (by omega)] at hc1
      omega
  · obtain ⟨k1, rfl⟩ : ∃ k1, k = k1 + 1 := ⟨k - 1, by omega⟩
    have hS1 : 1 ≤ 2 ^ k1 := Nat.one_le_two_pow
    have hS2 : 2 ^ k1 ≤ 2 ^ 9 := Nat.pow_le_pow_right (by decide) (by omega)
    have hS4 : (2 : Nat) ^ 9 = 512 := by decide
    have hS3 : 2 ^ (k1 + 1) = 2 * 2 ^ k1 := by rw [Nat.pow_succ]; omega
    have hS5 : 2 ^ (k1 + 1) / 2 = 2 ^ k1 := by omega
    rw [hS5] at hl
    have hl : lv_has ls 4 [(3, .int (nI (2 ^ k1))), (2, .int (nI pl)), (1, .ref h2), (0, .ref h)] := hl
    refine lv_iload_n hx hb d_WL_placeOf_6 rfl (lv_at hl 0 rfl) ?_
    refine lv_if_le hx hb d_WL_placeOf_7 (tgt := 44) (by decide) (fun hc1 => ?_) (fun hc1 => ?_)
    · rw [nw_le0 (by omega)] at hc1
      omega
    · rw [nw_le0 (by omega)] at hc1
      refine lv_iload_n hx hb d_WL_placeOf_10 rfl (lv_at hl 1 rfl) ?_
      refine lv_iload_n hx hb d_WL_placeOf_11 rfl (lv_at hl 0 rfl) ?_
      refine lv_iadd hx hb d_WL_placeOf_12 ?_
      refine nw_ti (nI_add pl (2 ^ k1)) ?_
      refine lv_aload_n hx hb d_WL_placeOf_13 rfl (lv_at hl 3 rfl) ?_
      refine va_get (D := (dC, dI)) (ci := 7) (v := .int (nI n)) (C := R_WL) (T := F_WL) (N := 3) hx hb hts hin_WL hown hK hP 0 rfl rfl 2 (by decide) (hts _ (nw_mc 313 rfl)) (fun _ h9 => h9) rfl d_WL_placeOf_14 ?_
      refine lv_icmp_gt hx hb d_WL_placeOf_17 (tgt := 37) (by decide) (fun hc2 => ?_) (fun hc2 => ?_)
      · rw [nI_ltI (by omega) (by omega)] at hc2
        refine lv_iload_n hx hb d_WL_placeOf_37 rfl (lv_at hl 0 rfl) ?_
        refine lv_iconst (v := nI 2) hx hb d_WL_placeOf_38 (by decide) ?_
        refine lv_idiv hx hb d_WL_placeOf_39 (by decide) ?_
        refine nw_ti (pk_div (a := (2 ^ k1)) (d := 2) (by omega) (by decide) (by decide)) ?_
        refine lv_istore_n hx hb d_WL_placeOf_40 rfl hl (by decide) rfl (fun ls hl => ?_)
        replace hl : lv_has ls 4 [(3, .int (nI ((2 ^ k1) / 2))), (2, .int (nI pl)), (1, .ref h2), (0, .ref h)] := hl
        refine lv_goto hx hb d_WL_placeOf_41 (tgt := 6) (by decide) ?_
        exact ih (k1, pl) (⟨by omega, hpl, ha, fun i h1 h2 => by omega⟩) (Nat.lt_succ_self _) _ hl
      · rw [nI_ltI (by omega) (by omega)] at hc2
        refine lv_aload_n hx hb d_WL_placeOf_20 rfl (lv_at hl 3 rfl) ?_
        refine lv_iload_n hx hb d_WL_placeOf_21 rfl (lv_at hl 1 rfl) ?_
        refine lv_iload_n hx hb d_WL_placeOf_22 rfl (lv_at hl 0 rfl) ?_
        refine lv_iadd hx hb d_WL_placeOf_23 ?_
        refine nw_ti (nI_add pl (2 ^ k1)) ?_
        refine lv_iconst (v := nI 1) hx hb d_WL_placeOf_24 (by decide) ?_
        refine lv_isub hx hb d_WL_placeOf_25 ?_
        refine nw_ti (pk_sub (a := (pl + (2 ^ k1))) (b := 1) (by omega)) ?_
        refine nw_ti (y := nI (pl + 2 ^ k1 - 1)) (congrArg nI (show (pl + (2 ^ k1)) - 1 = pl + 2 ^ k1 - 1 by omega)) ?_
        refine lv_aload_n hx hb d_WL_placeOf_26 rfl (lv_at hl 2 rfl) ?_
        have hmm := hm (pl + 2 ^ k1 - 1) (by omega)
        refine vp_callSi (va_Run.run (va_runV (As := [.int (nI (pl + 2 ^ k1 - 1)), .ref h2]) (rest := []) ⟨hx, hb, hml, hown, hts⟩ (c_WL_compare l dC dI cB cI h a b n C st h2 a2 n2 c2 (pl + 2 ^ k1 - 1) (by omega) hmm (by omega) hC hc) (cwV (C := R_WL) 2 hts (nw_GV (nw_m 318 rfl) (nw_m 319 rfl) (nw_m 320 rfl) (nw_m 12 rfl) (nw_m 321 rfl)) rfl rfl rfl (by decide +kernel) ⟨Nat.le_of_ble_eq_true rfl, Nat.le_of_ble_eq_true rfl⟩) (nw_preV (q0 := 0) (ci := 7) (q := (R_WL, F_WL, 3)) hK hP [0, 1, 2, 3, 4] [0, 1] rfl rfl rfl rfl) rfl rfl hl.1 rfl (lv_room (Nat.le_of_ble_eq_true rfl)) d_WL_placeOf_27 ⟨Nat.le_of_ble_eq_true rfl, Nat.le_of_ble_eq_true rfl⟩)) (fun r her => ?_)
        subst her
        refine lv_if_ge hx hb d_WL_placeOf_30 (tgt := 37) (by decide) (fun hc3 => ?_) (fun hc3 => ?_)
        · refine lv_iload_n hx hb d_WL_placeOf_37 rfl (lv_at hl 0 rfl) ?_
          refine lv_iconst (v := nI 2) hx hb d_WL_placeOf_38 (by decide) ?_
          refine lv_idiv hx hb d_WL_placeOf_39 (by decide) ?_
          refine nw_ti (pk_div (a := (2 ^ k1)) (d := 2) (by omega) (by decide) (by decide)) ?_
          refine lv_istore_n hx hb d_WL_placeOf_40 rfl hl (by decide) rfl (fun ls hl => ?_)
          replace hl : lv_has ls 4 [(3, .int (nI ((2 ^ k1) / 2))), (2, .int (nI pl)), (1, .ref h2), (0, .ref h)] := hl
          refine lv_goto hx hb d_WL_placeOf_41 (tgt := 6) (by decide) ?_
          exact ih (k1, pl) (⟨by omega, hpl, ha, fun i h1 h2 h3 => by
            rcases Nat.lt_or_ge (pl + 2 ^ k1 - 1) i with q | q
            · exact Int32.not_lt.mpr hc3 (hmono _ _ q h2 h3)
            · rw [show i = pl + 2 ^ k1 - 1 by omega] at h3; exact Int32.not_lt.mpr hc3 h3⟩) (Nat.lt_succ_self _) _ hl
        · have hc4 := Int32.not_le.mp hc3
          refine lv_iload_n hx hb d_WL_placeOf_33 rfl (lv_at hl 1 rfl) ?_
          refine lv_iload_n hx hb d_WL_placeOf_34 rfl (lv_at hl 0 rfl) ?_
          refine lv_iadd hx hb d_WL_placeOf_35 ?_
          refine nw_ti (nI_add pl (2 ^ k1)) ?_
          refine nw_ti (y := nI (pl + 2 ^ k1)) (congrArg nI (show pl + (2 ^ k1) = pl + 2 ^ k1 by omega)) ?_
          refine lv_istore_n hx hb d_WL_placeOf_36 rfl hl (by decide) rfl (fun ls hl => ?_)
          replace hl : lv_has ls 4 [(2, .int (nI (pl + 2 ^ k1))), (3, .int (nI (2 ^ k1))), (1, .ref h2), (0, .ref h)] := hl
          refine lv_iload_n hx hb d_WL_placeOf_37 rfl (lv_at hl 1 rfl) ?_
          refine lv_iconst (v := nI 2) hx hb d_WL_placeOf_38 (by decide) ?_
          refine lv_idiv hx hb d_WL_placeOf_39 (by decide) ?_
          refine nw_ti (pk_div (a := (2 ^ k1)) (d := 2) (by omega) (by decide) (by decide)) ?_
          refine lv_istore_n hx hb d_WL_placeOf_40 rfl hl (by decide) rfl (fun ls hl => ?_)
          replace hl : lv_has ls 4 [(3, .int (nI ((2 ^ k1) / 2))), (2, .int (nI (pl + 2 ^ k1))), (1, .ref h2), (0, .ref h)] := hl
          refine lv_goto hx hb d_WL_placeOf_41 (tgt := 6) (by decide) ?_
          exact ih (k1, pl + 2 ^ k1) (⟨by omega, by omega, fun i h1 => by
            rcases Nat.lt_or_ge i (pl + 2 ^ k1 - 1) with q | q
            · exact hmono _ _ q (by omega) hc4
            · rw [show i = pl + 2 ^ k1 - 1 by omega]; exact hc4, fun i h1 h2 => hz i (by omega) h2⟩) (Nat.lt_succ_self _) _ hl

set_option maxHeartbeats 4000000 in
set_option maxRecDepth 100000 in
theorem c_WL_isAt (l : Launch) (dC : Nat → ClassId) (dI : Nat → Nat → Nat) (cB cI : ClassId) (h a b n : Nat) (C st : Nat → Nat) (h2 a2 n2 : Nat) (c2 : Nat → Nat) (pl : Nat) (hpl : pl ≤ 1000) (hn0 : n ≤ 1000) (hm : pl < n → st pl ≤ st (pl + 1) ∧ st (pl + 1) ≤ 12000 ∧ st (pl + 1) - st pl ≤ 60) (hn : n2 ≤ 60) (hC : ∀ j, C j < 128) (hc : ∀ j, c2 j < 128) : Met l y_WL_isAt w_WL_isAt ({ frames := 2, cells := 0, slots := 0, locals := 47 }) (nw_Pr [.ref h, .int (nI pl), .ref h2] (dC, dI) nw_cls [(cB, .byte), (cI, .int)] [(h, .inr (7, [.ref a, .ref b, .int (nI n)])), (a, nw_ai cB 12000 C), (b, nw_ai cI 1001 st), (h2, .inr (6, [.ref a2, .int (nI n2)])), (a2, nw_ai cB 60 c2)]) (vp_Si (fun r => (r = nI 1 ∧ pl < n ∧ nw_cm (fun k => C (st pl + k)) (st (pl + 1) - st pl) c2 n2 = 0) ∨ (r = nI 0 ∧ ¬ (pl < n ∧ nw_cm (fun k => C (st pl + k)) (st (pl + 1) - st pl) c2 n2 = 0)))) 0 0 (fun _ => False) := by
  refine Met.ofW (cc := b_WL_isAt) (maxL := 3) (ret := (some .boolean)) (by decide) rfl ?_
  intro p e s m args below meth cd s₁ B hml hv0
  obtain ⟨rfl, hP, hK⟩ := hv0
  have hx := B.exec
  have hb := B.bytes
  have hr := B.returns
  have hts := atoms_spec (ws := w_WL_isAt) B.pre
  have hown : s.vm.findClass R_WL = some m.cls := findClass_of_methodNamed B.named
  have hlocks := B.notSynchronized
  have hl := lv_entry ([.ref h, .int (nI pl), .ref h2]) (n := 3) (Nat.le_of_ble_eq_true rfl)
  rw [lg_entry_eq]
  generalize (lg_sl ([.ref h, .int (nI pl), .ref h2]) ++ List.replicate (3 - (lg_sl ([.ref h, .int (nI pl), .ref h2])).length) Slot.unset).toArray = ls at hl ⊢
  have hl : lv_has ls 3 [(0, .ref h), (1, .int (nI pl)), (2, .ref h2)] := hl
  refine lv_iload_n hx hb d_WL_isAt_0 rfl (lv_at hl 1 rfl) ?_
  refine lv_aload_n hx hb d_WL_isAt_1 rfl (lv_at hl 0 rfl) ?_
  refine va_get (D := (dC, dI)) (ci := 7) (v := .int (nI n)) (C := R_WL) (T := F_WL) (N := 3) hx hb hts hin_WL hown hK hP 0 rfl rfl 2 (by decide) (hts _ (nw_mc 313 rfl)) (fun _ h9 => h9) rfl d_WL_isAt_2 ?_
  refine lv_icmp_ge hx hb d_WL_isAt_5 (tgt := 21) (by decide) (fun hc1 => ?_) (fun hc1 => ?_)
  · rw [nI_leI (by omega) (by omega)] at hc1
    refine lv_iconst (v := nI 0) hx hb d_WL_isAt_21 (by decide) ?_
    exact W.zret (v := nI 0) hx hb hr rfl (fun t ht hW => ⟨_, rfl, Or.inr ⟨rfl, fun q => by omega⟩, ht⟩) (fun q hq => by cases hq) d_WL_isAt_22
  · rw [nI_leI (by omega) (by omega)] at hc1
    refine lv_aload_n hx hb d_WL_isAt_8 rfl (lv_at hl 0 rfl) ?_
    refine lv_iload_n hx hb d_WL_isAt_9 rfl (lv_at hl 1 rfl) ?_
    refine lv_aload_n hx hb d_WL_isAt_10 rfl (lv_at hl 2 rfl) ?_
    refine vp_callSi (va_Run.run (va_runV (As := [.int (nI pl), .ref h2]) (rest := []) ⟨hx, hb, hml, hown, hts⟩ (c_WL_compare l dC dI cB cI h a b n C st h2 a2 n2 c2 pl (by omega) (hm (by omega)) (by omega) hC hc) (cwV (C := R_WL) 2 hts (nw_GV (nw_m 318 rfl) (nw_m 319 rfl) (nw_m 320 rfl) (nw_m 12 rfl) (nw_m 321 rfl)) rfl rfl rfl (by decide +kernel) ⟨Nat.le_of_ble_eq_true rfl, Nat.le_of_ble_eq_true rfl⟩) (nw_preV (q0 := 0) (ci := 7) (q := (R_WL, F_WL, 3)) hK hP [0, 1, 2, 3, 4] [0, 1] rfl rfl rfl rfl) rfl rfl hl.1 rfl (lv_room (Nat.le_of_ble_eq_true rfl)) d_WL_isAt_11 ⟨Nat.le_of_ble_eq_true rfl, Nat.le_of_ble_eq_true rfl⟩)) (fun r her => ?_)
    subst her
    refine lv_if_ne hx hb d_WL_isAt_14 (tgt := 21) (by decide) (fun hc2 => ?_) (fun hc2 => ?_)
    · refine lv_iconst (v := nI 0) hx hb d_WL_isAt_21 (by decide) ?_
      exact W.zret (v := nI 0) hx hb hr rfl (fun t ht hW => ⟨_, rfl, Or.inr ⟨rfl, fun q => hc2 q.2⟩, ht⟩) (fun q hq => by cases hq) d_WL_isAt_22
    · refine lv_iconst (v := nI 1) hx hb d_WL_isAt_17 (by decide) ?_
      refine lv_goto hx hb d_WL_isAt_18 (tgt := 22) (by decide) ?_
      exact W.zret (v := nI 1) hx hb hr rfl (fun t ht hW => ⟨_, rfl, Or.inl ⟨rfl, by omega, hc2⟩, ht⟩) (fun q hq => by cases hq) d_WL_isAt_22

set_option maxHeartbeats 4000000 in
set_option maxRecDepth 100000 in
theorem c_WL_hasRoomFor (l : Launch) (dC : Nat → ClassId) (dI : Nat → Nat → Nat) (cI : ClassId) (h a b n : Nat) (st : Nat → Nat) (h2 a2 n2 : Nat) (hn0 : n ≤ 1000) (hst : st n ≤ 12000) (hn : n2 ≤ 60) : Met l y_WL_hasRoomFor w_WL_hasRoomFor ({ frames := 1, cells := 0, slots := 0, locals := 20 }) (nw_Pr [.ref h, .ref h2] (dC, dI) nw_cls [(cI, .int)] [(h, .inr (7, [.ref a, .ref b, .int (nI n)])), (b, nw_ai cI 1001 st), (h2, .inr (6, [.ref a2, .int (nI n2)]))]) (vp_Si (fun r => r = nI (if n < 1000 ∧ st n + n2 ≤ 12000 then 1 else 0))) 0 0 (fun _ => False) := by
  refine Met.ofW (cc := b_WL_hasRoomFor) (maxL := 2) (ret := (some .boolean)) (by decide) rfl ?_
  intro p e s m args below meth cd s₁ B hml hv0
  obtain ⟨rfl, hP, hK⟩ := hv0
  have hx := B.exec
  have hb := B.bytes
  have hr := B.returns
  have hts := atoms_spec (ws := w_WL_hasRoomFor) B.pre
  have hown : s.vm.findClass R_WL = some m.cls := findClass_of_methodNamed B.named
  have hlocks := B.notSynchronized
  have hl := lv_entry ([.ref h, .ref h2]) (n := 2) (Nat.le_of_ble_eq_true rfl)
  rw [lg_entry_eq]
  generalize (lg_sl ([.ref h, .ref h2]) ++ List.replicate (2 - (lg_sl ([.ref h, .ref h2])).length) Slot.unset).toArray = ls at hl ⊢
  have hl : lv_has ls 2 [(0, .ref h), (1, .ref h2)] := hl
  refine lv_aload_n hx hb d_WL_hasRoomFor_0 rfl (lv_at hl 0 rfl) ?_
  refine va_get (D := (dC, dI)) (ci := 7) (v := .int (nI n)) (C := R_WL) (T := F_WL) (N := 3) hx hb hts hin_WL hown hK hP 0 rfl rfl 2 (by decide) (hts _ (nw_mc 313 rfl)) (fun _ h9 => h9) rfl d_WL_hasRoomFor_1 ?_
  refine lv_sipush (v := nI 1000) hx hb d_WL_hasRoomFor_4 (by decide) ?_
  refine lv_icmp_ge hx hb d_WL_hasRoomFor_7 (tgt := 29) (by decide) (fun hc1 => ?_) (fun hc1 => ?_)
  · rw [nI_leI (by omega) (by omega)] at hc1
    refine lv_iconst (v := nI 0) hx hb d_WL_hasRoomFor_29 (by decide) ?_
    exact W.zret (v := nI 0) hx hb hr rfl (fun t ht hW => ⟨_, rfl, by rw [if_neg (by omega)], ht⟩) (fun q hq => by cases hq) d_WL_hasRoomFor_30
  · rw [nI_leI (by omega) (by omega)] at hc1
    refine lv_aload_n hx hb d_WL_hasRoomFor_10 rfl (lv_at hl 0 rfl) ?_
    refine vp_callSi (va_Run.run (va_runV (As := []) (rest := []) ⟨hx, hb, hml, hown, hts⟩ (c_WL_characters l dC dI cI h a b n st (by omega)) (cwV (C := R_WL) 0 hts (nw_GV (nw_m 322 rfl) (nw_m 153 rfl) (nw_m 154 rfl) (nw_m 12 rfl) (nw_m 155 rfl)) rfl rfl rfl (by decide +kernel) ⟨Nat.le_of_ble_eq_true rfl, Nat.le_of_ble_eq_true rfl⟩) (nw_preV (q0 := 0) (ci := 7) (q := (R_WL, F_WL, 3)) hK hP [0, 1] [0] rfl rfl rfl rfl) rfl rfl hl.1 rfl (lv_room (Nat.le_of_ble_eq_true rfl)) d_WL_hasRoomFor_11 ⟨Nat.le_of_ble_eq_true rfl, Nat.le_of_ble_eq_true rfl⟩)) (fun r her => ?_)
    subst her
    refine lv_aload_n hx hb d_WL_hasRoomFor_14 rfl (lv_at hl 1 rfl) ?_
    refine vp_callSi (va_Run.run (va_runV (As := []) (rest := [.int (nI (st n))]) ⟨hx, hb, hml, hown, hts⟩ (c_Row_length l dC dI h2 a2 n2) (cwV (C := R_Row) 0 hts (nw_GV (nw_m 323 rfl) (nw_m 48 rfl) (nw_m 49 rfl) (nw_m 5 rfl) (nw_m 50 rfl)) rfl rfl rfl (by decide +kernel) ⟨Nat.le_of_ble_eq_true rfl, Nat.le_of_ble_eq_true rfl⟩) (nw_preV (q0 := 2) (ci := 6) (q := (R_Row, F_Row, 2)) hK hP [2] [] rfl rfl rfl rfl) rfl rfl hl.1 rfl (lv_room (Nat.le_of_ble_eq_true rfl)) d_WL_hasRoomFor_15 ⟨Nat.le_of_ble_eq_true rfl, Nat.le_of_ble_eq_true rfl⟩)) (fun r her => ?_)
    subst her
    refine lv_iadd hx hb d_WL_hasRoomFor_18 ?_
    refine nw_ti (nI_add (st n) n2) ?_
    refine lv_sipush (v := nI 12000) hx hb d_WL_hasRoomFor_19 (by decide) ?_
    refine lv_icmp_gt hx hb d_WL_hasRoomFor_22 (tgt := 29) (by decide) (fun hc2 => ?_) (fun hc2 => ?_)
    · rw [nI_ltI (by omega) (by omega)] at hc2
      refine lv_iconst (v := nI 0) hx hb d_WL_hasRoomFor_29 (by decide) ?_
      exact W.zret (v := nI 0) hx hb hr rfl (fun t ht hW => ⟨_, rfl, by rw [if_neg (by omega)], ht⟩) (fun q hq => by cases hq) d_WL_hasRoomFor_30
    · rw [nI_ltI (by omega) (by omega)] at hc2
      refine lv_iconst (v := nI 1) hx hb d_WL_hasRoomFor_25 (by decide) ?_
      refine lv_goto hx hb d_WL_hasRoomFor_26 (tgt := 30) (by decide) ?_
      exact W.zret (v := nI 1) hx hb hr rfl (fun t ht hW => ⟨_, rfl, by rw [if_pos (by omega)], ht⟩) (fun q hq => by cases hq) d_WL_hasRoomFor_30

set_option maxHeartbeats 4000000 in
set_option maxRecDepth 100000 in
theorem c_WL_insertAt (l : Launch) (dC : Nat → ClassId) (dI : Nat → Nat → Nat) (sz : Nat) (cB cI : ClassId) (h a b n : Nat) (C st : Nat → Nat) (h2 a2 n2 : Nat) (c2 : Nat → Nat) (pl : Nat) (hpl : pl ≤ n) (hn0 : n < 1000) (hst : st pl ≤ st n) (hroom : st n + n2 ≤ 12000) (hs : ∀ x, x ≤ n → st x ≤ 12000) (hn : n2 ≤ 60) (hC : ∀ j, C j < 128) (hc : ∀ j, c2 j < 128) : Met l y_WL_insertAt w_WL_insertAt ({ frames := 2, cells := 0, slots := 0, locals := 40 }) (nw_Pw [.ref h, .int (nI pl), .ref h2] (dC, dI) nw_cls [(cB, .byte), (cI, .int)] [(h, .inr (7, [.ref a, .ref b, .int (nI n)])), (a, nw_ai cB 12000 C), (b, nw_ai cI 1001 st), (h2, .inr (6, [.ref a2, .int (nI n2)])), (a2, nw_ai cB 60 c2)] sz) (va_Qv (fun _ : Unit => True) (nw_B (dC, dI) nw_cls (va_A [(h, .inr (7, [.ref a, .ref b, .int (nI n)])), (a, nw_ai cB 12000 C), (b, nw_ai cI 1001 st), (h2, .inr (6, [.ref a2, .int (nI n2)])), (a2, nw_ai cB 60 c2)] sz) (fun _ : Unit => [(h, .inr (7, [.ref a, .ref b, .int (nI (n + 1))])), (a, nw_ai cB 12000 (va_cpy c2 (va_cpy C C (st pl) (st pl + n2) (st n - st pl)) 0 (st pl) n2)), (b, nw_ai cI 1001 (nw_ins st pl n n2)), (h2, .inr (6, [.ref a2, .int (nI n2)])), (a2, nw_ai cB 60 c2)])) (va_A [(h, .inr (7, [.ref a, .ref b, .int (nI n)])), (a, nw_ai cB 12000 C), (b, nw_ai cI 1001 st), (h2, .inr (6, [.ref a2, .int (nI n2)])), (a2, nw_ai cB 60 c2)] sz)) 0 0 (va_A [(h, .inr (7, [.ref a, .ref b, .int (nI n)])), (a, nw_ai cB 12000 C), (b, nw_ai cI 1001 st), (h2, .inr (6, [.ref a2, .int (nI n2)])), (a2, nw_ai cB 60 c2)] sz) := by
  refine Met.ofW (cc := b_WL_insertAt) (maxL := 6) (ret := none) (by decide) rfl ?_
  intro p e s m args below meth cd s₁ B hml hv0
  obtain ⟨rfl, hsz, hP, hK, hD0⟩ := hv0
  have hx := B.exec
  have hb := B.bytes
  have hr := B.returns
  have hts := atoms_spec (ws := w_WL_insertAt) B.pre
  have hown : s.vm.findClass R_WL = some m.cls := findClass_of_methodNamed B.named
  have hlocks := B.notSynchronized
  subst hsz
  have hD := hD0.self (sz := s.heap.size)
  generalize hAe : va_A [(h, .inr (7, [.ref a, .ref b, .int (nI n)])), (a, nw_ai cB 12000 C), (b, nw_ai cI 1001 st), (h2, .inr (6, [.ref a2, .int (nI n2)])), (a2, nw_ai cB 60 c2)] s.heap.size = A at hD ⊢
  have hA : ∀ q : Nat, s.heap.size ≤ q → A q := fun q h => by rw [← hAe]; exact Or.inr h
  have hS : va_S A s.heap s.heap [] := va_S.rf
  have hl := lv_entry ([.ref h, .int (nI pl), .ref h2]) (n := 6) (Nat.le_of_ble_eq_true rfl)
  rw [lg_entry_eq]
  generalize (lg_sl ([.ref h, .int (nI pl), .ref h2]) ++ List.replicate (6 - (lg_sl ([.ref h, .int (nI pl), .ref h2])).length) Slot.unset).toArray = ls at hl ⊢
  have hl : lv_has ls 6 [(0, .ref h), (1, .int (nI pl)), (2, .ref h2)] := hl
  refine lv_aload_n hx hb d_WL_insertAt_0 rfl (lv_at hl 0 rfl) ?_
  refine va_get (D := (dC, dI)) (ci := 7) (v := .ref b) (C := R_WL) (T := F_WL) (N := 3) hx hb hts hin_WL hown hK hP 0 rfl rfl 1 (by decide) (hts _ (nw_mc 312 rfl)) (fun _ h9 => h9) rfl d_WL_insertAt_1 ?_
  refine lv_iload_n hx hb d_WL_insertAt_4 rfl (lv_at hl 1 rfl) ?_
  refine nw_iald hx hb hK hP 2 1 rfl rfl (k := pl) (by omega) (by first | decide | omega) d_WL_insertAt_5 ?_
  refine lv_istore_n hx hb d_WL_insertAt_6 rfl hl (by decide) rfl (fun ls hl => ?_)
  replace hl : lv_has ls 6 [(3, .int (nI (st pl))), (0, .ref h), (1, .int (nI pl)), (2, .ref h2)] := hl
  refine lv_aload_n hx hb d_WL_insertAt_7 rfl (lv_at hl 3 rfl) ?_
  refine vp_callSi (va_Run.run (va_runV (As := []) (rest := []) ⟨hx, hb, hml, hown, hts⟩ (c_Row_length l dC dI h2 a2 n2) (cwV (C := R_Row) 0 hts (nw_GV (nw_m 323 rfl) (nw_m 48 rfl) (nw_m 49 rfl) (nw_m 5 rfl) (nw_m 50 rfl)) rfl rfl rfl (by decide +kernel) ⟨Nat.le_of_ble_eq_true rfl, Nat.le_of_ble_eq_true rfl⟩) (nw_preV (q0 := 3) (ci := 6) (q := (R_Row, F_Row, 2)) hK hP [3] [] rfl rfl rfl rfl) rfl rfl hl.1 rfl (lv_room (Nat.le_of_ble_eq_true rfl)) d_WL_insertAt_8 ⟨Nat.le_of_ble_eq_true rfl, Nat.le_of_ble_eq_true rfl⟩)) (fun r her => ?_)
  subst her
  refine lv_istore hx hb d_WL_insertAt_11 hl (by decide) rfl (fun ls hl => ?_)
  replace hl : lv_has ls 6 [(4, .int (nI n2)), (3, .int (nI (st pl))), (0, .ref h), (1, .int (nI pl)), (2, .ref h2)] := hl
  refine lv_aload_n hx hb d_WL_insertAt_13 rfl (lv_at hl 2 rfl) ?_
  refine va_get (D := (dC, dI)) (ci := 7) (v := .ref a) (C := R_WL) (T := F_WL) (N := 3) hx hb hts hin_WL hown hK hP 0 rfl rfl 0 (by decide) (hts _ (nw_mc 311 rfl)) (fun _ h9 => h9) rfl d_WL_insertAt_14 ?_
  refine lv_iload_n hx hb d_WL_insertAt_17 rfl (lv_at hl 1 rfl) ?_
  refine lv_aload_n hx hb d_WL_insertAt_18 rfl (lv_at hl 2 rfl) ?_
  refine va_get (D := (dC, dI)) (ci := 7) (v := .ref a) (C := R_WL) (T := F_WL) (N := 3) hx hb hts hin_WL hown hK hP 0 rfl rfl 0 (by decide) (hts _ (nw_mc 311 rfl)) (fun _ h9 => h9) rfl d_WL_insertAt_19 ?_
  refine lv_iload_n hx hb d_WL_insertAt_22 rfl (lv_at hl 1 rfl) ?_
  refine lv_iload hx hb d_WL_insertAt_23 (lv_at hl 0 rfl) ?_
  refine lv_iadd hx hb d_WL_insertAt_25 ?_
  refine nw_ti (nI_add (st pl) n2) ?_
  refine lv_aload_n hx hb d_WL_insertAt_26 rfl (lv_at hl 2 rfl) ?_
  refine vp_callSi (va_Run.run (va_runV (As := []) (rest := [.int (nI ((st pl) + n2)), .ref a, .int (nI (st pl)), .ref a]) ⟨hx, hb, hml, hown, hts⟩ (c_WL_characters l dC dI cI h a b n st (by omega)) (cwV (C := R_WL) 0 hts (nw_GV (nw_m 322 rfl) (nw_m 153 rfl) (nw_m 154 rfl) (nw_m 12 rfl) (nw_m 155 rfl)) rfl rfl rfl (by decide +kernel) ⟨Nat.le_of_ble_eq_true rfl, Nat.le_of_ble_eq_true rfl⟩) (nw_preV (q0 := 0) (ci := 7) (q := (R_WL, F_WL, 3)) hK hP [0, 2] [1] rfl rfl rfl rfl) rfl rfl hl.1 rfl (lv_room (Nat.le_of_ble_eq_true rfl)) d_WL_insertAt_27 ⟨Nat.le_of_ble_eq_true rfl, Nat.le_of_ble_eq_true rfl⟩)) (fun r her => ?_)
  subst her
  refine lv_iload_n hx hb d_WL_insertAt_30 rfl (lv_at hl 1 rfl) ?_
  refine lv_isub hx hb d_WL_insertAt_31 ?_
  refine nw_ti (pk_sub (a := (st n)) (b := (st pl)) (by omega)) ?_
  refine nw_copyb hx hb (hml.trans hl.1.symm) hown (hts _ (nw_mc 324 rfl)) (hts _ (nw_mc 307 rfl)) (hts _ (nw_mc 308 rfl)) (hts _ (nw_mc 309 rfl)) hK hP hD hS 1 1 0 0 rfl rfl rfl rfl (sp := (st pl)) (dp := ((st pl) + n2)) (n := ((st n) - (st pl))) (by omega) (by omega) (by decide) (by decide) (fun i hi => hC _) (Nat.le_of_ble_eq_true rfl) (Nat.le_of_ble_eq_true rfl) d_WL_insertAt_32 (fun H locs hP hD hS => ?_)
  replace hP : va_P (dC, dI) nw_cls [(h, .inr (7, [.ref a, .ref b, .int (nI n)])), (a, nw_ai cB 12000 (va_cpy C C (st pl) ((st pl) + n2) ((st n) - (st pl)))), (b, nw_ai cI 1001 st), (h2, .inr (6, [.ref a2, .int (nI n2)])), (a2, nw_ai cB 60 c2)] H := hP
  replace hD : va_D A [(h, .inr (7, [.ref a, .ref b, .int (nI n)])), (a, nw_ai cB 12000 (va_cpy C C (st pl) ((st pl) + n2) ((st n) - (st pl)))), (b, nw_ai cI 1001 st), (h2, .inr (6, [.ref a2, .int (nI n2)])), (a2, nw_ai cB 60 c2)] := hD
  refine lv_aload_n hx hb d_WL_insertAt_35 rfl (lv_at hl 4 rfl) ?_
  refine lv_aload_n hx hb d_WL_insertAt_36 rfl (lv_at hl 2 rfl) ?_
  refine va_get (D := (dC, dI)) (ci := 7) (v := .ref a) (C := R_WL) (T := F_WL) (N := 3) hx hb hts hin_WL hown hK hP 0 rfl rfl 0 (by decide) (hts _ (nw_mc 311 rfl)) (fun _ h9 => h9) rfl d_WL_insertAt_37 ?_
  refine lv_iload_n hx hb d_WL_insertAt_40 rfl (lv_at hl 1 rfl) ?_
  refine nw_callv (wc := [(h2, .inr (6, [.ref a2, .int (nI n2)])), (a2, nw_ai cB 60 c2), (a, nw_ai cB 12000 (va_cpy C C (st pl) ((st pl) + n2) ((st n) - (st pl))))]) (wr := [(h, .inr (7, [.ref a, .ref b, .int (nI n)])), (b, nw_ai cI 1001 st)]) hP hD hS hA [3, 4, 1] [0, 2] rfl rfl (by decide) (by decide) (va_runV (As := [.ref a, .int (nI (st pl))]) (rest := []) ⟨hx, hb, hml, hown, hts⟩ (c_Row_copyTo l dC dI _ cB h2 a2 n2 c2 a 12000 (va_cpy C C (st pl) ((st pl) + n2) ((st n) - (st pl))) (st pl) (by omega) (by omega) (by omega) (fun i hi => hc i)) (cwV (C := R_Row) 2 hts (nw_GV (nw_m 325 rfl) (nw_m 326 rfl) (nw_m 327 rfl) (nw_m 5 rfl) (nw_m 328 rfl)) rfl rfl rfl (by decide +kernel) ⟨Nat.le_of_ble_eq_true rfl, Nat.le_of_ble_eq_true rfl⟩) (nw_prewV (q0 := 3) (ci := 6) (q := (R_Row, F_Row, 2)) hK hP hD [3, 4, 1] [0] (by decide) rfl rfl rfl rfl) rfl rfl hl.1 rfl (lv_room (Nat.le_of_ble_eq_true rfl)) d_WL_insertAt_41 ⟨Nat.le_of_ble_eq_true rfl, Nat.le_of_ble_eq_true rfl⟩) (fun _ H locs hw hP hD hS => ?_)
  replace hP : va_P (dC, dI) nw_cls [(h, .inr (7, [.ref a, .ref b, .int (nI n)])), (b, nw_ai cI 1001 st), (h2, .inr (6, [.ref a2, .int (nI n2)])), (a2, nw_ai cB 60 c2), (a, nw_ai cB 12000 (va_cpy c2 (va_cpy C C (st pl) ((st pl) + n2) ((st n) - (st pl))) 0 (st pl) n2))] H := hP
  replace hD : va_D A [(h, .inr (7, [.ref a, .ref b, .int (nI n)])), (b, nw_ai cI 1001 st), (h2, .inr (6, [.ref a2, .int (nI n2)])), (a2, nw_ai cB 60 c2), (a, nw_ai cB 12000 (va_cpy c2 (va_cpy C C (st pl) ((st pl) + n2) ((st n) - (st pl))) 0 (st pl) n2))] := hD
  refine lv_aload_n hx hb d_WL_insertAt_44 rfl (lv_at hl 2 rfl) ?_
  refine va_get (D := (dC, dI)) (ci := 7) (v := .int (nI n)) (C := R_WL) (T := F_WL) (N := 3) hx hb hts hin_WL hown hK hP 0 rfl rfl 2 (by decide) (hts _ (nw_mc 313 rfl)) (fun _ h9 => h9) rfl d_WL_insertAt_45 ?_
  refine nw_ti (y := nI (n + 1) - nI 1) ((pk_sub (a := n + 1) (b := 1) (by omega)).symm) ?_
  refine lv_istore hx hb d_WL_insertAt_48 hl (by decide) rfl (fun ls hl => ?_)
  replace hl : lv_has ls 6 [(5, .int (nI (n + 1) - nI 1)), (4, .int (nI n2)), (3, .int (nI (st pl))), (0, .ref h), (1, .int (nI pl)), (2, .ref h2)] := hl
  refine nw_loopW (σ := Nat × (Nat → Nat)) (fun x => match x with | (j, f) => pl ≤ j ∧ j ≤ n + 1 ∧ ∀ x, f x = if j < x ∧ x ≤ n + 1 then st (x - 1) + n2 else st x) (fun x => match x with | (j, f) => [(5, .int (nI j - nI 1)), (4, .int (nI n2)), (3, .int (nI (st pl))), (0, .ref h), (1, .int (nI pl)), (2, .ref h2)]) (fun x => match x with | (j, f) => [(h, .inr (7, [.ref a, .ref b, .int (nI n)])), (b, nw_ai cI 1001 f), (h2, .inr (6, [.ref a2, .int (nI n2)])), (a2, nw_ai cB 60 c2), (a, nw_ai cB 12000 (va_cpy c2 (va_cpy C C (st pl) ((st pl) + n2) ((st n) - (st pl))) 0 (st pl) n2))]) (fun x => match x with | (j, f) => j) (fun x hI ih ls H locs hl hP hD hS => ?_) (n + 1, st) (⟨by omega, Nat.le_refl _, fun x => by rw [if_neg (by omega)]⟩) hl hP hD hS
  obtain ⟨j, f⟩ := x
  replace hI : pl ≤ j ∧ j ≤ n + 1 ∧ ∀ x, f x = if j < x ∧ x ≤ n + 1 then st (x - 1) + n2 else st x := hI
  replace hl : lv_has ls 6 [(5, .int (nI j - nI 1)), (4, .int (nI n2)), (3, .int (nI (st pl))), (0, .ref h), (1, .int (nI pl)), (2, .ref h2)] := hl
  replace hP : va_P (dC, dI) nw_cls [(h, .inr (7, [.ref a, .ref b, .int (nI n)])), (b, nw_ai cI 1001 f), (h2, .inr (6, [.ref a2, .int (nI n2)])), (a2, nw_ai cB 60 c2), (a, nw_ai cB 12000 (va_cpy c2 (va_cpy C C (st pl) ((st pl) + n2) ((st n) - (st pl))) 0 (st pl) n2))] H := hP
  replace hD : va_D A [(h, .inr (7, [.ref a, .ref b, .int (nI n)])), (b, nw_ai cI 1001 f), (h2, .inr (6, [.ref a2, .int (nI n2)])), (a2, nw_ai cB 60 c2), (a, nw_ai cB 12000 (va_cpy c2 (va_cpy C C (st pl) ((st pl) + n2) ((st n) - (st pl))) 0 (st pl) n2))] := hD
  obtain ⟨hj1, hj2, hf⟩ := hI
  refine lv_iload hx hb d_WL_insertAt_50 (lv_at hl 0 rfl) ?_
  refine lv_iload_n hx hb d_WL_insertAt_52 rfl (lv_at hl 4 rfl) ?_
  refine lv_icmp_lt hx hb d_WL_insertAt_53 (tgt := 81) (by decide) (fun hc1 => ?_) (fun hc1 => ?_)
  · rw [nw_jlt (by omega) (by omega)] at hc1
    obtain rfl : f = nw_ins st pl n n2 := funext fun x => by rw [hf x, show j = pl by omega]; rfl
    replace hP : va_P (dC, dI) nw_cls [(h, .inr (7, [.ref a, .ref b, .int (nI n)])), (b, nw_ai cI 1001 (nw_ins st pl n n2)), (h2, .inr (6, [.ref a2, .int (nI n2)])), (a2, nw_ai cB 60 c2), (a, nw_ai cB 12000 (va_cpy c2 (va_cpy C C (st pl) ((st pl) + n2) ((st n) - (st pl))) 0 (st pl) n2))] H := hP
    replace hD : va_D A [(h, .inr (7, [.ref a, .ref b, .int (nI n)])), (b, nw_ai cI 1001 (nw_ins st pl n n2)), (h2, .inr (6, [.ref a2, .int (nI n2)])), (a2, nw_ai cB 60 c2), (a, nw_ai cB 12000 (va_cpy c2 (va_cpy C C (st pl) ((st pl) + n2) ((st n) - (st pl))) 0 (st pl) n2))] := hD
    refine lv_aload_n hx hb d_WL_insertAt_81 rfl (lv_at hl 3 rfl) ?_
    refine lv_dup hx hb d_WL_insertAt_82 rfl ?_
    refine va_get (D := (dC, dI)) (ci := 7) (v := .int (nI n)) (C := R_WL) (T := F_WL) (N := 3) hx hb hts hin_WL hown hK hP 0 rfl rfl 2 (by decide) (hts _ (nw_mc 313 rfl)) (fun _ h9 => h9) rfl d_WL_insertAt_83 ?_
    refine lv_iconst (v := nI 1) hx hb d_WL_insertAt_86 (by decide) ?_
    refine lv_iadd hx hb d_WL_insertAt_87 ?_
    refine nw_ti (nI_add n 1) ?_
    refine va_put (D := (dC, dI)) (ci := 7) (v := .int (nI (n + 1))) (ty := .int) (C := R_WL) (T := F_WL) (N := 3) hx hb hts hin_WL t_WL t_WL_ok n_WL hown hK hP hD hS 0 rfl rfl 2 (by decide) (hts _ (nw_mc 313 rfl)) (fun _ h9 => h9) rfl (by decide +kernel) rfl rfl (Nat.le_of_ble_eq_true rfl) d_WL_insertAt_88 (fun H locs hP hD hS => ?_)
    replace hP : va_P (dC, dI) nw_cls [(h, .inr (7, [.ref a, .ref b, .int (nI (n + 1))])), (b, nw_ai cI 1001 (nw_ins st pl n n2)), (h2, .inr (6, [.ref a2, .int (nI n2)])), (a2, nw_ai cB 60 c2), (a, nw_ai cB 12000 (va_cpy c2 (va_cpy C C (st pl) ((st pl) + n2) ((st n) - (st pl))) 0 (st pl) n2))] H := hP
    replace hD : va_D A [(h, .inr (7, [.ref a, .ref b, .int (nI (n + 1))])), (b, nw_ai cI 1001 (nw_ins st pl n n2)), (h2, .inr (6, [.ref a2, .int (nI n2)])), (a2, nw_ai cB 60 c2), (a, nw_ai cB 12000 (va_cpy c2 (va_cpy C C (st pl) ((st pl) + n2) ((st n) - (st pl))) 0 (st pl) n2))] := hD
    have hP := hP.sub (ws' := [(h, .inr (7, [.ref a, .ref b, .int (nI (n + 1))])), (a, nw_ai cB 12000 (va_cpy c2 (va_cpy C C (st pl) ((st pl) + n2) ((st n) - (st pl))) 0 (st pl) n2)), (b, nw_ai cI 1001 (nw_ins st pl n n2)), (h2, .inr (6, [.ref a2, .int (nI n2)])), (a2, nw_ai cB 60 c2)]) [0, 4, 1, 2, 3] rfl
    have hD := hD.sub (ws' := [(h, .inr (7, [.ref a, .ref b, .int (nI (n + 1))])), (a, nw_ai cB 12000 (va_cpy c2 (va_cpy C C (st pl) ((st pl) + n2) ((st n) - (st pl))) 0 (st pl) n2)), (b, nw_ai cI 1001 (nw_ins st pl n n2)), (h2, .inr (6, [.ref a2, .int (nI n2)])), (a2, nw_ai cB 60 c2)]) [0, 4, 1, 2, 3] (by decide) rfl
    exact W.vret hx hb hr (fun t ht hW => ⟨⟨(), rfl, trivial, by rw [ht]; exact hP, hD⟩, hS.F ht⟩) hS.2.2 d_WL_insertAt_91
  · rw [nw_jlt (by omega) (by omega)] at hc1
    refine lv_aload_n hx hb d_WL_insertAt_56 rfl (lv_at hl 3 rfl) ?_
    refine va_get (D := (dC, dI)) (ci := 7) (v := .ref b) (C := R_WL) (T := F_WL) (N := 3) hx hb hts hin_WL hown hK hP 0 rfl rfl 1 (by decide) (hts _ (nw_mc 312 rfl)) (fun _ h9 => h9) rfl d_WL_insertAt_57 ?_
    refine lv_iload hx hb d_WL_insertAt_60 (lv_at hl 0 rfl) ?_
    refine lv_iconst (v := nI 1) hx hb d_WL_insertAt_62 (by decide) ?_
    refine lv_iadd hx hb d_WL_insertAt_63 ?_
    refine nw_ti (y := nI j) (nw_j1 j) ?_
    refine lv_aload_n hx hb d_WL_insertAt_64 rfl (lv_at hl 3 rfl) ?_
    refine va_get (D := (dC, dI)) (ci := 7) (v := .ref b) (C := R_WL) (T := F_WL) (N := 3) hx hb hts hin_WL hown hK hP 0 rfl rfl 1 (by decide) (hts _ (nw_mc 312 rfl)) (fun _ h9 => h9) rfl d_WL_insertAt_65 ?_
    refine lv_iload hx hb d_WL_insertAt_68 (lv_at hl 0 rfl) ?_
    refine nw_ti (y := nI (j - 1)) (pk_sub (by omega)) ?_
    have hf1 := hf (j - 1)
    rw [if_neg (by omega)] at hf1
    have hs1 := hs (j - 1) (by omega)
    refine nw_iald hx hb hK hP 1 1 rfl rfl (k := (j - 1)) (by omega) (by first | decide | omega) d_WL_insertAt_70 ?_
    refine lv_iload hx hb d_WL_insertAt_71 (lv_at hl 1 rfl) ?_
    refine lv_iadd hx hb d_WL_insertAt_73 ?_
    refine nw_ti (nI_add (f (j - 1)) n2) ?_
    refine nw_iast hx hb hK hP hD hS 1 1 rfl rfl (k := j) (v := ((f (j - 1)) + n2)) (by omega) (by first | decide | omega) d_WL_insertAt_74 (fun H locs hP hD hS => ?_)
    replace hP : va_P (dC, dI) nw_cls [(h, .inr (7, [.ref a, .ref b, .int (nI n)])), (b, nw_ai cI 1001 (va_up f j ((f (j - 1)) + n2))), (h2, .inr (6, [.ref a2, .int (nI n2)])), (a2, nw_ai cB 60 c2), (a, nw_ai cB 12000 (va_cpy c2 (va_cpy C C (st pl) ((st pl) + n2) ((st n) - (st pl))) 0 (st pl) n2))] H := hP
    replace hD : va_D A [(h, .inr (7, [.ref a, .ref b, .int (nI n)])), (b, nw_ai cI 1001 (va_up f j ((f (j - 1)) + n2))), (h2, .inr (6, [.ref a2, .int (nI n2)])), (a2, nw_ai cB 60 c2), (a, nw_ai cB 12000 (va_cpy c2 (va_cpy C C (st pl) ((st pl) + n2) ((st n) - (st pl))) 0 (st pl) n2))] := hD
    refine lv_iinc (v := nI (j - 1) - nI 1) hx hb d_WL_insertAt_75 hl (k := 0) rfl (nw_jdec j (by omega)) (by decide) rfl (fun ls hl => ?_)
    have hl : lv_has ls 6 [(5, .int (nI (j - 1) - nI 1)), (4, .int (nI n2)), (3, .int (nI (st pl))), (0, .ref h), (1, .int (nI pl)), (2, .ref h2)] := hl
    refine lv_goto hx hb d_WL_insertAt_78 (tgt := 50) (by decide) ?_
    exact ih (j - 1, va_up f j ((f (j - 1)) + n2)) (⟨by omega, by omega, fun x => by
      by_cases hx1 : x = j
      · rw [hx1, va_up_self, if_pos (by omega), hf1]
      · rw [va_up_ne _ _ hx1, hf x]
        by_cases hx2 : j < x ∧ x ≤ n + 1
        · rw [if_pos hx2, if_pos (by omega)]
        · rw [if_neg hx2, if_neg (by omega)]⟩) (show j - 1 < j by omega) _ _ _ hl hP hD hS

set_option maxHeartbeats 4000000 in
set_option maxRecDepth 100000 in
theorem c_WL_deleteAt (l : Launch) (dC : Nat → ClassId) (dI : Nat → Nat → Nat) (sz : Nat) (cB cI : ClassId) (h a b n : Nat) (C st : Nat → Nat) (pl : Nat) (hpl : pl < n) (hn0 : n ≤ 1000) (hmo : ∀ i j, i ≤ j → j ≤ n → st i ≤ st j) (hs : st n ≤ 12000) (hC : ∀ j, C j < 128) : Met l y_WL_deleteAt w_WL_deleteAt ({ frames := 1, cells := 0, slots := 0, locals := 20 }) (nw_Pw [.ref h, .int (nI pl)] (dC, dI) nw_cls [(cB, .byte), (cI, .int)] [(h, .inr (7, [.ref a, .ref b, .int (nI n)])), (a, nw_ai cB 12000 C), (b, nw_ai cI 1001 st)] sz) (va_Qv (fun _ : Unit => True) (nw_B (dC, dI) nw_cls (va_A [(h, .inr (7, [.ref a, .ref b, .int (nI n)])), (a, nw_ai cB 12000 C), (b, nw_ai cI 1001 st)] sz) (fun _ : Unit => [(h, .inr (7, [.ref a, .ref b, .int (nI (n - 1))])), (a, nw_ai cB 12000 (va_cpy C C (st (pl + 1)) (st pl) (st n - st (pl + 1)))), (b, nw_ai cI 1001 (nw_del st pl n (st (pl + 1) - st pl)))])) (va_A [(h, .inr (7, [.ref a, .ref b, .int (nI n)])), (a, nw_ai cB 12000 C), (b, nw_ai cI 1001 st)] sz)) 0 0 (va_A [(h, .inr (7, [.ref a, .ref b, .int (nI n)])), (a, nw_ai cB 12000 C), (b, nw_ai cI 1001 st)] sz) := by
  refine Met.ofW (cc := b_WL_deleteAt) (maxL := 5) (ret := none) (by decide) rfl ?_
  intro p e s m args below meth cd s₁ B hml hv0
  obtain ⟨rfl, hsz, hP, hK, hD0⟩ := hv0
  have hx := B.exec
  have hb := B.bytes
  have hr := B.returns
  have hts := atoms_spec (ws := w_WL_deleteAt) B.pre
  have hown : s.vm.findClass R_WL = some m.cls := findClass_of_methodNamed B.named
  have hlocks := B.notSynchronized
  subst hsz
  have hD := hD0.self (sz := s.heap.size)
  generalize hAe : va_A [(h, .inr (7, [.ref a, .ref b, .int (nI n)])), (a, nw_ai cB 12000 C), (b, nw_ai cI 1001 st)] s.heap.size = A at hD ⊢
  have hA : ∀ q : Nat, s.heap.size ≤ q → A q := fun q h => by rw [← hAe]; exact Or.inr h
  have hS : va_S A s.heap s.heap [] := va_S.rf
  have hl := lv_entry ([.ref h, .int (nI pl)]) (n := 5) (Nat.le_of_ble_eq_true rfl)
  rw [lg_entry_eq]
  generalize (lg_sl ([.ref h, .int (nI pl)]) ++ List.replicate (5 - (lg_sl ([.ref h, .int (nI pl)])).length) Slot.unset).toArray = ls at hl ⊢
  have hl : lv_has ls 5 [(0, .ref h), (1, .int (nI pl))] := hl
  have hm1 := hmo pl (pl + 1) (by omega) (by omega)
  have hm2 := hmo (pl + 1) n (by omega) (by omega)
  refine lv_aload_n hx hb d_WL_deleteAt_0 rfl (lv_at hl 0 rfl) ?_
  refine va_get (D := (dC, dI)) (ci := 7) (v := .ref b) (C := R_WL) (T := F_WL) (N := 3) hx hb hts hin_WL hown hK hP 0 rfl rfl 1 (by decide) (hts _ (nw_mc 312 rfl)) (fun _ h9 => h9) rfl d_WL_deleteAt_1 ?_
  refine lv_iload_n hx hb d_WL_deleteAt_4 rfl (lv_at hl 1 rfl) ?_
  refine nw_iald hx hb hK hP 2 1 rfl rfl (k := pl) (by omega) (by first | decide | omega) d_WL_deleteAt_5 ?_
  refine lv_istore_n hx hb d_WL_deleteAt_6 rfl hl (by decide) rfl (fun ls hl => ?_)
  replace hl : lv_has ls 5 [(2, .int (nI (st pl))), (0, .ref h), (1, .int (nI pl))] := hl
  refine lv_aload_n hx hb d_WL_deleteAt_7 rfl (lv_at hl 1 rfl) ?_
  refine va_get (D := (dC, dI)) (ci := 7) (v := .ref b) (C := R_WL) (T := F_WL) (N := 3) hx hb hts hin_WL hown hK hP 0 rfl rfl 1 (by decide) (hts _ (nw_mc 312 rfl)) (fun _ h9 => h9) rfl d_WL_deleteAt_8 ?_
  refine lv_iload_n hx hb d_WL_deleteAt_11 rfl (lv_at hl 2 rfl) ?_
  refine lv_iconst (v := nI 1) hx hb d_WL_deleteAt_12 (by decide) ?_
  refine lv_iadd hx hb d_WL_deleteAt_13 ?_
  refine nw_ti (nI_add pl 1) ?_
  refine nw_iald hx hb hK hP 2 1 rfl rfl (k := (pl + 1)) (by omega) (by first | decide | omega) d_WL_deleteAt_14 ?_
  refine lv_istore_n hx hb d_WL_deleteAt_15 rfl hl (by decide) rfl (fun ls hl => ?_)
  replace hl : lv_has ls 5 [(3, .int (nI (st (pl + 1)))), (2, .int (nI (st pl))), (0, .ref h), (1, .int (nI pl))] := hl
  refine lv_aload_n hx hb d_WL_deleteAt_16 rfl (lv_at hl 2 rfl) ?_
  refine va_get (D := (dC, dI)) (ci := 7) (v := .ref a) (C := R_WL) (T := F_WL) (N := 3) hx hb hts hin_WL hown hK hP 0 rfl rfl 0 (by decide) (hts _ (nw_mc 311 rfl)) (fun _ h9 => h9) rfl d_WL_deleteAt_17 ?_
  refine lv_iload_n hx hb d_WL_deleteAt_20 rfl (lv_at hl 0 rfl) ?_
  refine lv_aload_n hx hb d_WL_deleteAt_21 rfl (lv_at hl 2 rfl) ?_
  refine va_get (D := (dC, dI)) (ci := 7) (v := .ref a) (C := R_WL) (T := F_WL) (N := 3) hx hb hts hin_WL hown hK hP 0 rfl rfl 0 (by decide) (hts _ (nw_mc 311 rfl)) (fun _ h9 => h9) rfl d_WL_deleteAt_22 ?_
  refine lv_iload_n hx hb d_WL_deleteAt_25 rfl (lv_at hl 1 rfl) ?_
  refine lv_aload_n hx hb d_WL_deleteAt_26 rfl (lv_at hl 2 rfl) ?_
  refine vp_callSi (va_Run.run (va_runV (As := []) (rest := [.int (nI (st pl)), .ref a, .int (nI (st (pl + 1))), .ref a]) ⟨hx, hb, hml, hown, hts⟩ (c_WL_characters l dC dI cI h a b n st (by omega)) (cwV (C := R_WL) 0 hts (nw_GV (nw_m 322 rfl) (nw_m 153 rfl) (nw_m 154 rfl) (nw_m 12 rfl) (nw_m 155 rfl)) rfl rfl rfl (by decide +kernel) ⟨Nat.le_of_ble_eq_true rfl, Nat.le_of_ble_eq_true rfl⟩) (nw_preV (q0 := 0) (ci := 7) (q := (R_WL, F_WL, 3)) hK hP [0, 2] [1] rfl rfl rfl rfl) rfl rfl hl.1 rfl (lv_room (Nat.le_of_ble_eq_true rfl)) d_WL_deleteAt_27 ⟨Nat.le_of_ble_eq_true rfl, Nat.le_of_ble_eq_true rfl⟩)) (fun r her => ?_)
  subst her
  refine lv_iload_n hx hb d_WL_deleteAt_30 rfl (lv_at hl 0 rfl) ?_
  refine lv_isub hx hb d_WL_deleteAt_31 ?_
  refine nw_ti (pk_sub (a := (st n)) (b := (st (pl + 1))) (by omega)) ?_
  refine nw_copyb hx hb (hml.trans hl.1.symm) hown (hts _ (nw_mc 324 rfl)) (hts _ (nw_mc 307 rfl)) (hts _ (nw_mc 308 rfl)) (hts _ (nw_mc 309 rfl)) hK hP hD hS 1 1 0 0 rfl rfl rfl rfl (sp := (st (pl + 1))) (dp := (st pl)) (n := ((st n) - (st (pl + 1)))) (by omega) (by omega) (by decide) (by decide) (fun i hi => hC _) (Nat.le_of_ble_eq_true rfl) (Nat.le_of_ble_eq_true rfl) d_WL_deleteAt_32 (fun H locs hP hD hS => ?_)
  replace hP : va_P (dC, dI) nw_cls [(h, .inr (7, [.ref a, .ref b, .int (nI n)])), (a, nw_ai cB 12000 (va_cpy C C (st (pl + 1)) (st pl) ((st n) - (st (pl + 1))))), (b, nw_ai cI 1001 st)] H := hP
  replace hD : va_D A [(h, .inr (7, [.ref a, .ref b, .int (nI n)])), (a, nw_ai cB 12000 (va_cpy C C (st (pl + 1)) (st pl) ((st n) - (st (pl + 1))))), (b, nw_ai cI 1001 st)] := hD
  refine lv_iload_n hx hb d_WL_deleteAt_35 rfl (lv_at hl 3 rfl) ?_
  refine lv_istore hx hb d_WL_deleteAt_36 hl (by decide) rfl (fun ls hl => ?_)
  replace hl : lv_has ls 5 [(4, .int (nI pl)), (3, .int (nI (st (pl + 1)))), (2, .int (nI (st pl))), (0, .ref h), (1, .int (nI pl))] := hl
  refine nw_loopW (σ := Nat × (Nat → Nat)) (fun x => match x with | (i, f) => pl ≤ i ∧ i ≤ n ∧ ∀ x, f x = if pl ≤ x ∧ x < i then st (x + 1) - (st (pl + 1) - st pl) else st x) (fun x => match x with | (i, f) => [(4, .int (nI i)), (3, .int (nI (st (pl + 1)))), (2, .int (nI (st pl))), (0, .ref h), (1, .int (nI pl))]) (fun x => match x with | (i, f) => [(h, .inr (7, [.ref a, .ref b, .int (nI n)])), (a, nw_ai cB 12000 (va_cpy C C (st (pl + 1)) (st pl) ((st n) - (st (pl + 1))))), (b, nw_ai cI 1001 f)]) (fun x => match x with | (i, f) => n - i) (fun x hI ih ls H locs hl hP hD hS => ?_) (pl, st) (⟨Nat.le_refl _, by omega, fun x => by rw [if_neg (by omega)]⟩) hl hP hD hS
  obtain ⟨i, f⟩ := x
  replace hI : pl ≤ i ∧ i ≤ n ∧ ∀ x, f x = if pl ≤ x ∧ x < i then st (x + 1) - (st (pl + 1) - st pl) else st x := hI
  replace hl : lv_has ls 5 [(4, .int (nI i)), (3, .int (nI (st (pl + 1)))), (2, .int (nI (st pl))), (0, .ref h), (1, .int (nI pl))] := hl
  replace hP : va_P (dC, dI) nw_cls [(h, .inr (7, [.ref a, .ref b, .int (nI n)])), (a, nw_ai cB 12000 (va_cpy C C (st (pl + 1)) (st pl) ((st n) - (st (pl + 1))))), (b, nw_ai cI 1001 f)] H := hP
  replace hD : va_D A [(h, .inr (7, [.ref a, .ref b, .int (nI n)])), (a, nw_ai cB 12000 (va_cpy C C (st (pl + 1)) (st pl) ((st n) - (st (pl + 1))))), (b, nw_ai cI 1001 f)] := hD
  obtain ⟨hi1, hi2, hf⟩ := hI
  refine lv_iload hx hb d_WL_deleteAt_38 (lv_at hl 0 rfl) ?_
  refine lv_aload_n hx hb d_WL_deleteAt_40 rfl (lv_at hl 3 rfl) ?_
  refine va_get (D := (dC, dI)) (ci := 7) (v := .int (nI n)) (C := R_WL) (T := F_WL) (N := 3) hx hb hts hin_WL hown hK hP 0 rfl rfl 2 (by decide) (hts _ (nw_mc 313 rfl)) (fun _ h9 => h9) rfl d_WL_deleteAt_41 ?_
  refine lv_icmp_ge hx hb d_WL_deleteAt_44 (tgt := 73) (by decide) (fun hc1 => ?_) (fun hc1 => ?_)
  · rw [nI_leI (by omega) (by omega)] at hc1
    obtain rfl : f = nw_del st pl n (st (pl + 1) - st pl) := funext fun x => by rw [hf x, show i = n by omega]; rfl
    replace hP : va_P (dC, dI) nw_cls [(h, .inr (7, [.ref a, .ref b, .int (nI n)])), (a, nw_ai cB 12000 (va_cpy C C (st (pl + 1)) (st pl) ((st n) - (st (pl + 1))))), (b, nw_ai cI 1001 (nw_del st pl n (st (pl + 1) - st pl)))] H := hP
    replace hD : va_D A [(h, .inr (7, [.ref a, .ref b, .int (nI n)])), (a, nw_ai cB 12000 (va_cpy C C (st (pl + 1)) (st pl) ((st n) - (st (pl + 1))))), (b, nw_ai cI 1001 (nw_del st pl n (st (pl + 1) - st pl)))] := hD
    refine lv_aload_n hx hb d_WL_deleteAt_73 rfl (lv_at hl 3 rfl) ?_
    refine lv_dup hx hb d_WL_deleteAt_74 rfl ?_
    refine va_get (D := (dC, dI)) (ci := 7) (v := .int (nI n)) (C := R_WL) (T := F_WL) (N := 3) hx hb hts hin_WL hown hK hP 0 rfl rfl 2 (by decide) (hts _ (nw_mc 313 rfl)) (fun _ h9 => h9) rfl d_WL_deleteAt_75 ?_
    refine lv_iconst (v := nI 1) hx hb d_WL_deleteAt_78 (by decide) ?_
    refine lv_isub hx hb d_WL_deleteAt_79 ?_
    refine nw_ti (pk_sub (a := n) (b := 1) (by omega)) ?_
    refine va_put (D := (dC, dI)) (ci := 7) (v := .int (nI (n - 1))) (ty := .int) (C := R_WL) (T := F_WL) (N := 3) hx hb hts hin_WL t_WL t_WL_ok n_WL hown hK hP hD hS 0 rfl rfl 2 (by decide) (hts _ (nw_mc 313 rfl)) (fun _ h9 => h9) rfl (by decide +kernel) rfl rfl (Nat.le_of_ble_eq_true rfl) d_WL_deleteAt_80 (fun H locs hP hD hS => ?_)
    replace hP : va_P (dC, dI) nw_cls [(h, .inr (7, [.ref a, .ref b, .int (nI (n - 1))])), (a, nw_ai cB 12000 (va_cpy C C (st (pl + 1)) (st pl) ((st n) - (st (pl + 1))))), (b, nw_ai cI 1001 (nw_del st pl n (st (pl + 1) - st pl)))] H := hP
    replace hD : va_D A [(h, .inr (7, [.ref a, .ref b, .int (nI (n - 1))])), (a, nw_ai cB 12000 (va_cpy C C (st (pl + 1)) (st pl) ((st n) - (st (pl + 1))))), (b, nw_ai cI 1001 (nw_del st pl n (st (pl + 1) - st pl)))] := hD
    exact W.vret hx hb hr (fun t ht hW => ⟨⟨(), rfl, trivial, by rw [ht]; exact hP, hD⟩, hS.F ht⟩) hS.2.2 d_WL_deleteAt_83
  · rw [nI_leI (by omega) (by omega)] at hc1
    have hf1 := hf (i + 1)
    rw [if_neg (by omega)] at hf1
    have hm3 := hmo (pl + 1) (i + 1) (by omega) (by omega)
    have hm4 := hmo (i + 1) n (by omega) (by omega)
    refine lv_aload_n hx hb d_WL_deleteAt_47 rfl (lv_at hl 3 rfl) ?_
    refine va_get (D := (dC, dI)) (ci := 7) (v := .ref b) (C := R_WL) (T := F_WL) (N := 3) hx hb hts hin_WL hown hK hP 0 rfl rfl 1 (by decide) (hts _ (nw_mc 312 rfl)) (fun _ h9 => h9) rfl d_WL_deleteAt_48 ?_
    refine lv_iload hx hb d_WL_deleteAt_51 (lv_at hl 0 rfl) ?_
    refine lv_aload_n hx hb d_WL_deleteAt_53 rfl (lv_at hl 3 rfl) ?_
    refine va_get (D := (dC, dI)) (ci := 7) (v := .ref b) (C := R_WL) (T := F_WL) (N := 3) hx hb hts hin_WL hown hK hP 0 rfl rfl 1 (by decide) (hts _ (nw_mc 312 rfl)) (fun _ h9 => h9) rfl d_WL_deleteAt_54 ?_
    refine lv_iload hx hb d_WL_deleteAt_57 (lv_at hl 0 rfl) ?_
    refine lv_iconst (v := nI 1) hx hb d_WL_deleteAt_59 (by decide) ?_
    refine lv_iadd hx hb d_WL_deleteAt_60 ?_
    refine nw_ti (nI_add i 1) ?_
    refine nw_iald hx hb hK hP 2 1 rfl rfl (k := (i + 1)) (by omega) (by first | decide | omega) d_WL_deleteAt_61 ?_
    refine lv_iload_n hx hb d_WL_deleteAt_62 rfl (lv_at hl 1 rfl) ?_
    refine lv_iload_n hx hb d_WL_deleteAt_63 rfl (lv_at hl 2 rfl) ?_
    refine lv_isub hx hb d_WL_deleteAt_64 ?_
    refine nw_ti (pk_sub (a := (st (pl + 1))) (b := (st pl)) (by omega)) ?_
    refine lv_isub hx hb d_WL_deleteAt_65 ?_
    refine nw_ti (pk_sub (a := (f (i + 1))) (b := ((st (pl + 1)) - (st pl))) (by omega)) ?_
    refine nw_iast hx hb hK hP hD hS 2 1 rfl rfl (k := i) (v := ((f (i + 1)) - ((st (pl + 1)) - (st pl)))) (by omega) (by first | decide | omega) d_WL_deleteAt_66 (fun H locs hP hD hS => ?_)
    replace hP : va_P (dC, dI) nw_cls [(h, .inr (7, [.ref a, .ref b, .int (nI n)])), (a, nw_ai cB 12000 (va_cpy C C (st (pl + 1)) (st pl) ((st n) - (st (pl + 1))))), (b, nw_ai cI 1001 (va_up f i ((f (i + 1)) - ((st (pl + 1)) - (st pl)))))] H := hP
    replace hD : va_D A [(h, .inr (7, [.ref a, .ref b, .int (nI n)])), (a, nw_ai cB 12000 (va_cpy C C (st (pl + 1)) (st pl) ((st n) - (st (pl + 1))))), (b, nw_ai cI 1001 (va_up f i ((f (i + 1)) - ((st (pl + 1)) - (st pl)))))] := hD
    refine lv_iinc (v := nI (i + 1)) hx hb d_WL_deleteAt_67 hl (k := 0) rfl (nI_add i 1) (by decide) rfl (fun ls hl => ?_)
    have hl : lv_has ls 5 [(4, .int (nI (i + 1))), (3, .int (nI (st (pl + 1)))), (2, .int (nI (st pl))), (0, .ref h), (1, .int (nI pl))] := hl
    refine lv_goto hx hb d_WL_deleteAt_70 (tgt := 38) (by decide) ?_
    exact ih (i + 1, va_up f i ((f (i + 1)) - ((st (pl + 1)) - (st pl)))) (⟨by omega, by omega, fun x => by
      by_cases hx1 : x = i
      · rw [hx1, va_up_self, if_pos (by omega), hf1]
      · rw [va_up_ne _ _ hx1, hf x]
        by_cases hx2 : pl ≤ x ∧ x < i
        · rw [if_pos hx2, if_pos (by omega)]
        · rw [if_neg hx2, if_neg (by omega)]⟩) (show n - (i + 1) < n - i by omega) _ _ _ hl hP hD hS
