set_option maxHeartbeats 4000000 in
set_option maxRecDepth 100000 in
theorem c_Row_length (l : Launch) (dC : Nat → ClassId) (dI : Nat → Nat → Nat) (h a n : Nat) : Met l y_Row_length w_Row_length ({ frames := 0, cells := 0, slots := 0, locals := 0 }) (nw_Pr [.ref h] (dC, dI) nw_cls [] [(h, .inr (6, [.ref a, .int (nI n)]))]) (vp_Si (fun r => r = nI n)) 0 0 (fun _ => False) := by
  refine Met.ofW (cc := b_Row_length) (maxL := 1) (ret := (some .int)) (by decide) rfl ?_
  intro p e s m args below meth cd s₁ B hml hv0
  obtain ⟨rfl, hP, hK⟩ := hv0
  have hx := B.exec
  have hb := B.bytes
  have hr := B.returns
  have hts := atoms_spec (ws := w_Row_length) B.pre
  have hown : s.vm.findClass R_Row = some m.cls := findClass_of_methodNamed B.named
  have hlocks := B.notSynchronized
  have hl := lv_entry ([.ref h]) (n := 1) (Nat.le_of_ble_eq_true rfl)
  rw [lg_entry_eq]
  generalize (lg_sl ([.ref h]) ++ List.replicate (1 - (lg_sl ([.ref h])).length) Slot.unset).toArray = ls at hl ⊢
  have hl : lv_has ls 1 [(0, .ref h)] := hl
  refine lv_aload_n hx hb d_Row_length_0 rfl (lv_at hl 0 rfl) ?_
  refine va_get (D := (dC, dI)) (ci := 6) (v := .int (nI n)) (C := R_Row) (T := F_Row) (N := 2) hx hb hts hin_Row hown hK hP 0 rfl rfl 1 (by decide) (hts _ (nw_mc 305 rfl)) (fun _ h9 => h9) rfl d_Row_length_1 ?_
  exact W.iret (v := nI n) hx hb hr (fun t ht hW => ⟨_, rfl, rfl, ht⟩) (fun q hq => by cases hq) d_Row_length_4

set_option maxHeartbeats 4000000 in
set_option maxRecDepth 100000 in
theorem c_Row_isEmpty (l : Launch) (dC : Nat → ClassId) (dI : Nat → Nat → Nat) (h a n : Nat) (hn : n ≤ 60) : Met l y_Row_isEmpty w_Row_isEmpty ({ frames := 0, cells := 0, slots := 0, locals := 0 }) (nw_Pr [.ref h] (dC, dI) nw_cls [] [(h, .inr (6, [.ref a, .int (nI n)]))]) (vp_Si (fun r => r = nI (if n = 0 then 1 else 0))) 0 0 (fun _ => False) := by
  refine Met.ofW (cc := b_Row_isEmpty) (maxL := 1) (ret := (some .boolean)) (by decide) rfl ?_
  intro p e s m args below meth cd s₁ B hml hv0
  obtain ⟨rfl, hP, hK⟩ := hv0
  have hx := B.exec
  have hb := B.bytes
  have hr := B.returns
  have hts := atoms_spec (ws := w_Row_isEmpty) B.pre
  have hown : s.vm.findClass R_Row = some m.cls := findClass_of_methodNamed B.named
  have hlocks := B.notSynchronized
  have hl := lv_entry ([.ref h]) (n := 1) (Nat.le_of_ble_eq_true rfl)
  rw [lg_entry_eq]
  generalize (lg_sl ([.ref h]) ++ List.replicate (1 - (lg_sl ([.ref h])).length) Slot.unset).toArray = ls at hl ⊢
  have hl : lv_has ls 1 [(0, .ref h)] := hl
  refine lv_aload_n hx hb d_Row_isEmpty_0 rfl (lv_at hl 0 rfl) ?_
  refine va_get (D := (dC, dI)) (ci := 6) (v := .int (nI n)) (C := R_Row) (T := F_Row) (N := 2) hx hb hts hin_Row hown hK hP 0 rfl rfl 1 (by decide) (hts _ (nw_mc 305 rfl)) (fun _ h9 => h9) rfl d_Row_isEmpty_1 ?_
  refine lv_if_ne hx hb d_Row_isEmpty_4 (tgt := 11) (by decide) (fun hc => ?_) (fun hc => ?_)
  · rw [nw_eq0 (by omega)] at hc
    refine lv_iconst (v := nI 0) hx hb d_Row_isEmpty_11 (by decide) ?_
    exact W.zret (v := nI 0) hx hb hr rfl (fun t ht hW => ⟨_, rfl, by rw [if_neg hc], ht⟩) (fun q hq => by cases hq) d_Row_isEmpty_12
  · rw [nw_eq0 (by omega)] at hc
    refine lv_iconst (v := nI 1) hx hb d_Row_isEmpty_7 (by decide) ?_
    refine lv_goto hx hb d_Row_isEmpty_8 (tgt := 12) (by decide) ?_
    exact W.zret (v := nI 1) hx hb hr rfl (fun t ht hW => ⟨_, rfl, by rw [if_pos hc], ht⟩) (fun q hq => by cases hq) d_Row_isEmpty_12

set_option maxHeartbeats 4000000 in
set_option maxRecDepth 100000 in
theorem c_Row_at (l : Launch) (dC : Nat → ClassId) (dI : Nat → Nat → Nat) (cB : ClassId) (h a n : Nat) (c : Nat → Nat) (k : Nat) (hk : k < 60) : Met l y_Row_at w_Row_at ({ frames := 0, cells := 0, slots := 0, locals := 0 }) (nw_Pr [.ref h, .int (nI k)] (dC, dI) nw_cls [(cB, .byte)] [(h, .inr (6, [.ref a, .int (nI n)])), (a, nw_ai cB 60 c)]) (vp_Si (fun r => r = nI (c k))) 0 0 (fun _ => False) := by
  refine Met.ofW (cc := b_Row_at) (maxL := 2) (ret := (some .int)) (by decide) rfl ?_
  intro p e s m args below meth cd s₁ B hml hv0
  obtain ⟨rfl, hP, hK⟩ := hv0
  have hx := B.exec
  have hb := B.bytes
  have hr := B.returns
  have hts := atoms_spec (ws := w_Row_at) B.pre
  have hown : s.vm.findClass R_Row = some m.cls := findClass_of_methodNamed B.named
  have hlocks := B.notSynchronized
  have hl := lv_entry ([.ref h, .int (nI k)]) (n := 2) (Nat.le_of_ble_eq_true rfl)
  rw [lg_entry_eq]
  generalize (lg_sl ([.ref h, .int (nI k)]) ++ List.replicate (2 - (lg_sl ([.ref h, .int (nI k)])).length) Slot.unset).toArray = ls at hl ⊢
  have hl : lv_has ls 2 [(0, .ref h), (1, .int (nI k))] := hl
  refine lv_aload_n hx hb d_Row_at_0 rfl (lv_at hl 0 rfl) ?_
  refine va_get (D := (dC, dI)) (ci := 6) (v := .ref a) (C := R_Row) (T := F_Row) (N := 2) hx hb hts hin_Row hown hK hP 0 rfl rfl 0 (by decide) (hts _ (nw_mc 304 rfl)) (fun _ h9 => h9) rfl d_Row_at_1 ?_
  refine lv_iload_n hx hb d_Row_at_4 rfl (lv_at hl 1 rfl) ?_
  refine nw_bald hx hb hK hP 1 0 rfl rfl (k := k) (by omega) (by first | decide | omega) d_Row_at_5 ?_
  exact W.iret (v := nI (c k)) hx hb hr (fun t ht hW => ⟨_, rfl, rfl, ht⟩) (fun q hq => by cases hq) d_Row_at_6

set_option maxHeartbeats 4000000 in
set_option maxRecDepth 100000 in
theorem c_Row_clear (l : Launch) (dC : Nat → ClassId) (dI : Nat → Nat → Nat) (sz : Nat) (h a n : Nat) : Met l y_Row_clear w_Row_clear ({ frames := 0, cells := 0, slots := 0, locals := 0 }) (nw_Pw [.ref h] (dC, dI) nw_cls [] [(h, .inr (6, [.ref a, .int (nI n)]))] sz) (va_Qv (fun _ : Unit => True) (nw_B (dC, dI) nw_cls (va_A [(h, .inr (6, [.ref a, .int (nI n)]))] sz) (fun _ : Unit => [(h, .inr (6, [.ref a, .int (nI 0)]))])) (va_A [(h, .inr (6, [.ref a, .int (nI n)]))] sz)) 0 0 (va_A [(h, .inr (6, [.ref a, .int (nI n)]))] sz) := by
  refine Met.ofW (cc := b_Row_clear) (maxL := 1) (ret := none) (by decide) rfl ?_
  intro p e s m args below meth cd s₁ B hml hv0
  obtain ⟨rfl, hsz, hP, hK, hD0⟩ := hv0
  have hx := B.exec
  have hb := B.bytes
  have hr := B.returns
  have hts := atoms_spec (ws := w_Row_clear) B.pre
  have hown : s.vm.findClass R_Row = some m.cls := findClass_of_methodNamed B.named
  have hlocks := B.notSynchronized
  subst hsz
  have hD := hD0.self (sz := s.heap.size)
  generalize hAe : va_A [(h, .inr (6, [.ref a, .int (nI n)]))] s.heap.size = A at hD ⊢
  have hA : ∀ q : Nat, s.heap.size ≤ q → A q := fun q h => by rw [← hAe]; exact Or.inr h
  have hS : va_S A s.heap s.heap [] := va_S.rf
  have hl := lv_entry ([.ref h]) (n := 1) (Nat.le_of_ble_eq_true rfl)
  rw [lg_entry_eq]
  generalize (lg_sl ([.ref h]) ++ List.replicate (1 - (lg_sl ([.ref h])).length) Slot.unset).toArray = ls at hl ⊢
  have hl : lv_has ls 1 [(0, .ref h)] := hl
  refine lv_aload_n hx hb d_Row_clear_0 rfl (lv_at hl 0 rfl) ?_
  refine lv_iconst (v := nI 0) hx hb d_Row_clear_1 (by decide) ?_
  refine va_put (D := (dC, dI)) (ci := 6) (v := .int (nI 0)) (ty := .int) (C := R_Row) (T := F_Row) (N := 2) hx hb hts hin_Row t_Row t_Row_ok n_Row hown hK hP hD hS 0 rfl rfl 1 (by decide) (hts _ (nw_mc 305 rfl)) (fun _ h9 => h9) rfl (by decide +kernel) rfl rfl (Nat.le_of_ble_eq_true rfl) d_Row_clear_2 (fun H locs hP hD hS => ?_)
  replace hP : va_P (dC, dI) nw_cls [(h, .inr (6, [.ref a, .int (nI 0)]))] H := hP
  replace hD : va_D A [(h, .inr (6, [.ref a, .int (nI 0)]))] := hD
  exact W.vret hx hb hr (fun t ht hW => ⟨⟨(), rfl, trivial, by rw [ht]; exact hP, hD⟩, hS.F ht⟩) hS.2.2 d_Row_clear_5

set_option maxHeartbeats 4000000 in
set_option maxRecDepth 100000 in
theorem c_Row_append (l : Launch) (dC : Nat → ClassId) (dI : Nat → Nat → Nat) (sz : Nat) (cB : ClassId) (h a n : Nat) (c : Nat → Nat) (v : Nat) (hn : n < 60) (hv : v < 128) : Met l y_Row_append w_Row_append ({ frames := 0, cells := 0, slots := 0, locals := 0 }) (nw_Pw [.ref h, .int (nI v)] (dC, dI) nw_cls [(cB, .byte)] [(h, .inr (6, [.ref a, .int (nI n)])), (a, nw_ai cB 60 c)] sz) (va_Qv (fun _ : Unit => True) (nw_B (dC, dI) nw_cls (va_A [(h, .inr (6, [.ref a, .int (nI n)])), (a, nw_ai cB 60 c)] sz) (fun _ : Unit => [(h, .inr (6, [.ref a, .int (nI (n + 1))])), (a, nw_ai cB 60 (va_up c n v))])) (va_A [(h, .inr (6, [.ref a, .int (nI n)])), (a, nw_ai cB 60 c)] sz)) 0 0 (va_A [(h, .inr (6, [.ref a, .int (nI n)])), (a, nw_ai cB 60 c)] sz) := by
  refine Met.ofW (cc := b_Row_append) (maxL := 2) (ret := none) (by decide) rfl ?_
  intro p e s m args below meth cd s₁ B hml hv0
  obtain ⟨rfl, hsz, hP, hK, hD0⟩ := hv0
  have hx := B.exec
  have hb := B.bytes
  have hr := B.returns
  have hts := atoms_spec (ws := w_Row_append) B.pre
  have hown : s.vm.findClass R_Row = some m.cls := findClass_of_methodNamed B.named
  have hlocks := B.notSynchronized
  subst hsz
  have hD := hD0.self (sz := s.heap.size)
  generalize hAe : va_A [(h, .inr (6, [.ref a, .int (nI n)])), (a, nw_ai cB 60 c)] s.heap.size = A at hD ⊢
  have hA : ∀ q : Nat, s.heap.size ≤ q → A q := fun q h => by rw [← hAe]; exact Or.inr h
  have hS : va_S A s.heap s.heap [] := va_S.rf
  have hl := lv_entry ([.ref h, .int (nI v)]) (n := 2) (Nat.le_of_ble_eq_true rfl)
  rw [lg_entry_eq]
  generalize (lg_sl ([.ref h, .int (nI v)]) ++ List.replicate (2 - (lg_sl ([.ref h, .int (nI v)])).length) Slot.unset).toArray = ls at hl ⊢
  have hl : lv_has ls 2 [(0, .ref h), (1, .int (nI v))] := hl
  refine lv_aload_n hx hb d_Row_append_0 rfl (lv_at hl 0 rfl) ?_
  refine va_get (D := (dC, dI)) (ci := 6) (v := .int (nI n)) (C := R_Row) (T := F_Row) (N := 2) hx hb hts hin_Row hown hK hP 0 rfl rfl 1 (by decide) (hts _ (nw_mc 305 rfl)) (fun _ h9 => h9) rfl d_Row_append_1 ?_
  refine lv_bipush (v := nI 60) hx hb d_Row_append_4 (by decide) ?_
  refine lv_icmp_ge hx hb d_Row_append_6 (tgt := 30) (by decide) (fun hc => ?_) (fun hc => ?_)
  · rw [nI_leI (by omega) (by omega)] at hc
    omega
  · rw [nI_leI (by omega) (by omega)] at hc
    refine lv_aload_n hx hb d_Row_append_9 rfl (lv_at hl 0 rfl) ?_
    refine va_get (D := (dC, dI)) (ci := 6) (v := .ref a) (C := R_Row) (T := F_Row) (N := 2) hx hb hts hin_Row hown hK hP 0 rfl rfl 0 (by decide) (hts _ (nw_mc 304 rfl)) (fun _ h9 => h9) rfl d_Row_append_10 ?_
    refine lv_aload_n hx hb d_Row_append_13 rfl (lv_at hl 0 rfl) ?_
    refine va_get (D := (dC, dI)) (ci := 6) (v := .int (nI n)) (C := R_Row) (T := F_Row) (N := 2) hx hb hts hin_Row hown hK hP 0 rfl rfl 1 (by decide) (hts _ (nw_mc 305 rfl)) (fun _ h9 => h9) rfl d_Row_append_14 ?_
    refine lv_iload_n hx hb d_Row_append_17 rfl (lv_at hl 1 rfl) ?_
    refine lv_i2b (v := nI v) hx hb d_Row_append_18 (nw_nb v hv) ?_
    refine nw_bast hx hb hK hP hD hS 1 0 rfl rfl (k := n) (v := v) (by omega) (by first | decide | omega) (by omega) d_Row_append_19 (fun H locs hP hD hS => ?_)
    replace hP : va_P (dC, dI) nw_cls [(h, .inr (6, [.ref a, .int (nI n)])), (a, nw_ai cB 60 (va_up c n v))] H := hP
    replace hD : va_D A [(h, .inr (6, [.ref a, .int (nI n)])), (a, nw_ai cB 60 (va_up c n v))] := hD
    refine lv_aload_n hx hb d_Row_append_20 rfl (lv_at hl 0 rfl) ?_
    refine lv_dup hx hb d_Row_append_21 rfl ?_
    refine va_get (D := (dC, dI)) (ci := 6) (v := .int (nI n)) (C := R_Row) (T := F_Row) (N := 2) hx hb hts hin_Row hown hK hP 0 rfl rfl 1 (by decide) (hts _ (nw_mc 305 rfl)) (fun _ h9 => h9) rfl d_Row_append_22 ?_
    refine lv_iconst (v := nI 1) hx hb d_Row_append_25 (by decide) ?_
    refine lv_iadd hx hb d_Row_append_26 ?_
    refine nw_ti (nI_add n 1) ?_
    refine va_put (D := (dC, dI)) (ci := 6) (v := .int (nI (n + 1))) (ty := .int) (C := R_Row) (T := F_Row) (N := 2) hx hb hts hin_Row t_Row t_Row_ok n_Row hown hK hP hD hS 0 rfl rfl 1 (by decide) (hts _ (nw_mc 305 rfl)) (fun _ h9 => h9) rfl (by decide +kernel) rfl rfl (Nat.le_of_ble_eq_true rfl) d_Row_append_27 (fun H locs hP hD hS => ?_)
    replace hP : va_P (dC, dI) nw_cls [(h, .inr (6, [.ref a, .int (nI (n + 1))])), (a, nw_ai cB 60 (va_up c n v))] H := hP
    replace hD : va_D A [(h, .inr (6, [.ref a, .int (nI (n + 1))])), (a, nw_ai cB 60 (va_up c n v))] := hD
    exact W.vret hx hb hr (fun t ht hW => ⟨⟨(), rfl, trivial, by rw [ht]; exact hP, hD⟩, hS.F ht⟩) hS.2.2 d_Row_append_30

set_option maxHeartbeats 4000000 in
set_option maxRecDepth 100000 in
theorem c_Row_copyTo (l : Launch) (dC : Nat → ClassId) (dI : Nat → Nat → Nat) (sz : Nat) (cB : ClassId) (h a n : Nat) (c : Nat → Nat) (b N : Nat) (g : Nat → Nat) (st : Nat) (hn : n ≤ 60) (hN : st + n ≤ N) (hN2 : N < 2 ^ 31) (hc : ∀ i, i < n → c i < 128) : Met l y_Row_copyTo w_Row_copyTo ({ frames := 1, cells := 0, slots := 0, locals := 18 }) (nw_Pw [.ref h, .ref b, .int (nI st)] (dC, dI) nw_cls [(cB, .byte)] [(h, .inr (6, [.ref a, .int (nI n)])), (a, nw_ai cB 60 c), (b, nw_ai cB N g)] sz) (va_Qv (fun _ : Unit => True) (nw_B (dC, dI) nw_cls (va_A [(h, .inr (6, [.ref a, .int (nI n)])), (a, nw_ai cB 60 c), (b, nw_ai cB N g)] sz) (fun _ : Unit => [(h, .inr (6, [.ref a, .int (nI n)])), (a, nw_ai cB 60 c), (b, nw_ai cB N (va_cpy c g 0 st n))])) (va_A [(h, .inr (6, [.ref a, .int (nI n)])), (a, nw_ai cB 60 c), (b, nw_ai cB N g)] sz)) 0 0 (va_A [(h, .inr (6, [.ref a, .int (nI n)])), (a, nw_ai cB 60 c), (b, nw_ai cB N g)] sz) := by
  refine Met.ofW (cc := b_Row_copyTo) (maxL := 3) (ret := none) (by decide) rfl ?_
  intro p e s m args below meth cd s₁ B hml hv0
  obtain ⟨rfl, hsz, hP, hK, hD0⟩ := hv0
  have hx := B.exec
  have hb := B.bytes
  have hr := B.returns
  have hts := atoms_spec (ws := w_Row_copyTo) B.pre
  have hown : s.vm.findClass R_Row = some m.cls := findClass_of_methodNamed B.named
  have hlocks := B.notSynchronized
  subst hsz
  have hD := hD0.self (sz := s.heap.size)
  generalize hAe : va_A [(h, .inr (6, [.ref a, .int (nI n)])), (a, nw_ai cB 60 c), (b, nw_ai cB N g)] s.heap.size = A at hD ⊢
  have hA : ∀ q : Nat, s.heap.size ≤ q → A q := fun q h => by rw [← hAe]; exact Or.inr h
  have hS : va_S A s.heap s.heap [] := va_S.rf
  have hl := lv_entry ([.ref h, .ref b, .int (nI st)]) (n := 3) (Nat.le_of_ble_eq_true rfl)
  rw [lg_entry_eq]
  generalize (lg_sl ([.ref h, .ref b, .int (nI st)]) ++ List.replicate (3 - (lg_sl ([.ref h, .ref b, .int (nI st)])).length) Slot.unset).toArray = ls at hl ⊢
  have hl : lv_has ls 3 [(0, .ref h), (1, .ref b), (2, .int (nI st))] := hl
  refine lv_aload_n hx hb d_Row_copyTo_0 rfl (lv_at hl 0 rfl) ?_
  refine va_get (D := (dC, dI)) (ci := 6) (v := .ref a) (C := R_Row) (T := F_Row) (N := 2) hx hb hts hin_Row hown hK hP 0 rfl rfl 0 (by decide) (hts _ (nw_mc 304 rfl)) (fun _ h9 => h9) rfl d_Row_copyTo_1 ?_
  refine lv_iconst (v := nI 0) hx hb d_Row_copyTo_4 (by decide) ?_
  refine lv_aload_n hx hb d_Row_copyTo_5 rfl (lv_at hl 1 rfl) ?_
  refine lv_iload_n hx hb d_Row_copyTo_6 rfl (lv_at hl 2 rfl) ?_
  refine lv_aload_n hx hb d_Row_copyTo_7 rfl (lv_at hl 0 rfl) ?_
  refine va_get (D := (dC, dI)) (ci := 6) (v := .int (nI n)) (C := R_Row) (T := F_Row) (N := 2) hx hb hts hin_Row hown hK hP 0 rfl rfl 1 (by decide) (hts _ (nw_mc 305 rfl)) (fun _ h9 => h9) rfl d_Row_copyTo_8 ?_
  refine nw_copyb hx hb (hml.trans hl.1.symm) hown (hts _ (nw_mc 306 rfl)) (hts _ (nw_mc 307 rfl)) (hts _ (nw_mc 308 rfl)) (hts _ (nw_mc 309 rfl)) hK hP hD hS 1 2 0 0 rfl rfl rfl rfl (sp := 0) (dp := st) (n := n) (by omega) (by omega) (by decide) (by omega) (fun i hi => by rw [Nat.zero_add]; exact hc i hi) (Nat.le_of_ble_eq_true rfl) (Nat.le_of_ble_eq_true rfl) d_Row_copyTo_11 (fun H locs hP hD hS => ?_)
  replace hP : va_P (dC, dI) nw_cls [(h, .inr (6, [.ref a, .int (nI n)])), (a, nw_ai cB 60 c), (b, nw_ai cB N (va_cpy c g 0 st n))] H := hP
  replace hD : va_D A [(h, .inr (6, [.ref a, .int (nI n)])), (a, nw_ai cB 60 c), (b, nw_ai cB N (va_cpy c g 0 st n))] := hD
  exact W.vret hx hb hr (fun t ht hW => ⟨⟨(), rfl, trivial, by rw [ht]; exact hP, hD⟩, hS.F ht⟩) hS.2.2 d_Row_copyTo_14
