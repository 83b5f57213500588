set_option maxHeartbeats 4000000 in
set_option maxRecDepth 100000 in
theorem c_Near_clear (l : Launch) (dC : Nat → ClassId) (dI : Nat → Nat → Nat) (sz : Nat) (cI : ClassId) (h aT aW : Nat) (Wc : Nat → Nat) : Met l y_Near_clear w_Near_clear ({ frames := 1, cells := 0, slots := 0, locals := 23 }) (nw_Pw [.ref h] (dC, dI) nw_cls [(cI, .int)] [(h, .inr (3, [.ref aT, .ref aW])), (aW, nw_ai cI 4 Wc)] sz) (va_Qv (fun _ : Unit => True) (nw_B (dC, dI) nw_cls (va_A [(h, .inr (3, [.ref aT, .ref aW])), (aW, nw_ai cI 4 Wc)] sz) (fun _ : Unit => [(h, .inr (3, [.ref aT, .ref aW])), (aW, nw_ai cI 4 (nw_fl 4 0 Wc))])) (va_A [(h, .inr (3, [.ref aT, .ref aW])), (aW, nw_ai cI 4 Wc)] sz)) 0 0 (va_A [(h, .inr (3, [.ref aT, .ref aW])), (aW, nw_ai cI 4 Wc)] sz) := by
  refine Met.ofW (cc := b_Near_clear) (maxL := 1) (ret := none) (by decide) rfl ?_
  intro p e s m args below meth cd s₁ B hml hv0
  obtain ⟨rfl, hsz, hP, hK, hD0⟩ := hv0
  have hx := B.exec
  have hb := B.bytes
  have hr := B.returns
  have hts := atoms_spec (ws := w_Near_clear) B.pre
  have hown : s.vm.findClass R_Near = some m.cls := findClass_of_methodNamed B.named
  have hlocks := B.notSynchronized
  subst hsz
  have hD := hD0.self (sz := s.heap.size)
  generalize hAe : va_A [(h, .inr (3, [.ref aT, .ref aW])), (aW, nw_ai cI 4 Wc)] s.heap.size = A at hD ⊢
  have hA : ∀ q : Nat, s.heap.size ≤ q → A q := fun q h => by rw [← hAe]; exact Or.inr h
  have hS : va_S A s.heap s.heap [] := va_S.rf
  have hl := lv_entry ([.ref h]) (n := 1) (Nat.le_of_ble_eq_true rfl)
  rw [lg_entry_eq]
  generalize (lg_sl ([.ref h]) ++ List.replicate (1 - (lg_sl ([.ref h])).length) Slot.unset).toArray = ls at hl ⊢
  have hl : lv_has ls 1 [(0, .ref h)] := hl
  refine lv_aload_n hx hb d_Near_clear_0 rfl (lv_at hl 0 rfl) ?_
  refine va_get (D := (dC, dI)) (ci := 3) (v := .ref aW) (C := R_Near) (T := F_Near) (N := 2) hx hb hts hin_Near hown hK hP 0 rfl rfl 1 (by decide) (hts _ (nw_mc 263 rfl)) (fun _ h9 => h9) rfl d_Near_clear_1 ?_
  refine lv_iconst (v := nI 0) hx hb d_Near_clear_4 (by decide) ?_
  refine nw_callv (wc := [(aW, nw_ai cI 4 Wc)]) (wr := [(h, .inr (3, [.ref aT, .ref aW]))]) hP hD hS hA [1] [0] rfl rfl (by decide) (by decide) (va_runS (As := [.ref aW, .int (nI 0)]) (rest := []) ⟨hx, hb, hml, hown, hts⟩ (c_Arr_fillI l dC dI _ cI aW 4 Wc 0 (by decide)) (va_cwS 2 hts (nw_GT (nw_m 264 rfl) (nw_m 265 rfl) (nw_m 234 rfl) (nw_m 266 rfl)) rfl rfl rfl (by decide +kernel) ⟨Nat.le_of_ble_eq_true rfl, Nat.le_of_ble_eq_true rfl⟩) (nw_prewS hK hP hD [1] [0] (by decide) rfl rfl) rfl rfl hl.1 rfl (lv_room (Nat.le_of_ble_eq_true rfl)) d_Near_clear_5 ⟨Nat.le_of_ble_eq_true rfl, Nat.le_of_ble_eq_true rfl⟩) (fun _ H locs hw hP hD hS => ?_)
  replace hP : va_P (dC, dI) nw_cls [(h, .inr (3, [.ref aT, .ref aW])), (aW, nw_ai cI 4 (nw_fl 4 0 Wc))] H := hP
  replace hD : va_D A [(h, .inr (3, [.ref aT, .ref aW])), (aW, nw_ai cI 4 (nw_fl 4 0 Wc))] := hD
  exact W.vret hx hb hr (fun t ht hW => ⟨⟨(), rfl, trivial, by rw [ht]; exact hP, hD⟩, hS.F ht⟩) hS.2.2 d_Near_clear_8

set_option maxHeartbeats 4000000 in
set_option maxRecDepth 100000 in
theorem c_Near_note_no (l : Launch) (dC : Nat → ClassId) (dI : Nat → Nat → Nat) (sz : Nat) (cB : ClassId) (h aT aW : Nat) (T : Nat → Int32) (i : Nat) (hi : i < 1000) : Met l y_Near_note w_Near_note ({ frames := 0, cells := 0, slots := 0, locals := 0 }) (nw_Pw [.ref h, .int (nI i), .int (-1)] (dC, dI) nw_cls [(cB, .byte)] [(h, .inr (3, [.ref aT, .ref aW])), (aT, nw_aw cB 1000 T)] sz) (va_Qv (fun _ : Unit => True) (nw_B (dC, dI) nw_cls (va_A [(h, .inr (3, [.ref aT, .ref aW])), (aT, nw_aw cB 1000 T)] sz) (fun _ : Unit => [(h, .inr (3, [.ref aT, .ref aW])), (aT, nw_aw cB 1000 (upd T i (-1)))])) (va_A [(h, .inr (3, [.ref aT, .ref aW])), (aT, nw_aw cB 1000 T)] sz)) 0 0 (va_A [(h, .inr (3, [.ref aT, .ref aW])), (aT, nw_aw cB 1000 T)] sz) := by
  refine Met.ofW (cc := b_Near_note) (maxL := 3) (ret := none) (by decide) rfl ?_
  intro p e s m args below meth cd s₁ B hml hv0
  obtain ⟨rfl, hsz, hP, hK, hD0⟩ := hv0
  have hx := B.exec
  have hb := B.bytes
  have hr := B.returns
  have hts := atoms_spec (ws := w_Near_note) B.pre
  have hown : s.vm.findClass R_Near = some m.cls := findClass_of_methodNamed B.named
  have hlocks := B.notSynchronized
  subst hsz
  have hD := hD0.self (sz := s.heap.size)
  generalize hAe : va_A [(h, .inr (3, [.ref aT, .ref aW])), (aT, nw_aw cB 1000 T)] s.heap.size = A at hD ⊢
  have hA : ∀ q : Nat, s.heap.size ≤ q → A q := fun q h => by rw [← hAe]; exact Or.inr h
  have hS : va_S A s.heap s.heap [] := va_S.rf
  have hl := lv_entry ([.ref h, .int (nI i), .int (-1)]) (n := 3) (Nat.le_of_ble_eq_true rfl)
  rw [lg_entry_eq]
  generalize (lg_sl ([.ref h, .int (nI i), .int (-1)]) ++ List.replicate (3 - (lg_sl ([.ref h, .int (nI i), .int (-1)])).length) Slot.unset).toArray = ls at hl ⊢
  have hl : lv_has ls 3 [(0, .ref h), (1, .int (nI i)), (2, .int (-1))] := hl
  refine lv_aload_n hx hb d_Near_note_0 rfl (lv_at hl 0 rfl) ?_
  refine va_get (D := (dC, dI)) (ci := 3) (v := .ref aT) (C := R_Near) (T := F_Near) (N := 2) hx hb hts hin_Near hown hK hP 0 rfl rfl 0 (by decide) (hts _ (nw_mc 262 rfl)) (fun _ h9 => h9) rfl d_Near_note_1 ?_
  refine lv_iload_n hx hb d_Near_note_4 rfl (lv_at hl 1 rfl) ?_
  refine lv_iload_n hx hb d_Near_note_5 rfl (lv_at hl 2 rfl) ?_
  refine lv_i2b (v := (-1)) hx hb d_Near_note_6 (by decide) ?_
  refine nw_bawst hx hb hK hP hD hS 1 0 rfl rfl (k := i) (v := (-1)) (by omega) (by decide) (by decide) d_Near_note_7 (fun H locs hP hD hS => ?_)
  replace hP : va_P (dC, dI) nw_cls [(h, .inr (3, [.ref aT, .ref aW])), (aT, nw_aw cB 1000 (upd T i (-1)))] H := hP
  replace hD : va_D A [(h, .inr (3, [.ref aT, .ref aW])), (aT, nw_aw cB 1000 (upd T i (-1)))] := hD
  refine lv_iload_n hx hb d_Near_note_8 rfl (lv_at hl 2 rfl) ?_
  refine lv_if_lt hx hb d_Near_note_9 (tgt := 22) (by decide) (fun g1 => ?_) (fun g1 => ?_)
  · exact W.vret hx hb hr (fun t ht hW => ⟨⟨(), rfl, trivial, by rw [ht]; exact hP, hD⟩, hS.F ht⟩) hS.2.2 d_Near_note_22
  · exact absurd (by decide) g1

set_option maxHeartbeats 4000000 in
set_option maxRecDepth 100000 in
theorem c_Near_note (l : Launch) (dC : Nat → ClassId) (dI : Nat → Nat → Nat) (sz : Nat) (cB cI : ClassId) (h aT aW : Nat) (T : Nat → Int32) (Wc : Nat → Nat) (i d : Nat) (hi : i < 1000) (hd : d ≤ 3) : Met l y_Near_note w_Near_note ({ frames := 0, cells := 0, slots := 0, locals := 0 }) (nw_Pw [.ref h, .int (nI i), .int (nI d)] (dC, dI) nw_cls [(cB, .byte), (cI, .int)] [(h, .inr (3, [.ref aT, .ref aW])), (aT, nw_aw cB 1000 T), (aW, nw_ai cI 4 Wc)] sz) (va_Qv (fun _ : Unit => True) (nw_B (dC, dI) nw_cls (va_A [(h, .inr (3, [.ref aT, .ref aW])), (aT, nw_aw cB 1000 T), (aW, nw_ai cI 4 Wc)] sz) (fun _ : Unit => [(h, .inr (3, [.ref aT, .ref aW])), (aT, nw_aw cB 1000 (upd T i (nI d))), (aW, nw_ai cI 4 (va_up Wc d (Wc d + 1)))])) (va_A [(h, .inr (3, [.ref aT, .ref aW])), (aT, nw_aw cB 1000 T), (aW, nw_ai cI 4 Wc)] sz)) 0 0 (va_A [(h, .inr (3, [.ref aT, .ref aW])), (aT, nw_aw cB 1000 T), (aW, nw_ai cI 4 Wc)] sz) := by
  refine Met.ofW (cc := b_Near_note) (maxL := 3) (ret := none) (by decide) rfl ?_
  intro p e s m args below meth cd s₁ B hml hv0
  obtain ⟨rfl, hsz, hP, hK, hD0⟩ := hv0
  have hx := B.exec
  have hb := B.bytes
  have hr := B.returns
  have hts := atoms_spec (ws := w_Near_note) B.pre
  have hown : s.vm.findClass R_Near = some m.cls := findClass_of_methodNamed B.named
  have hlocks := B.notSynchronized
  subst hsz
  have hD := hD0.self (sz := s.heap.size)
  generalize hAe : va_A [(h, .inr (3, [.ref aT, .ref aW])), (aT, nw_aw cB 1000 T), (aW, nw_ai cI 4 Wc)] s.heap.size = A at hD ⊢
  have hA : ∀ q : Nat, s.heap.size ≤ q → A q := fun q h => by rw [← hAe]; exact Or.inr h
  have hS : va_S A s.heap s.heap [] := va_S.rf
  have hl := lv_entry ([.ref h, .int (nI i), .int (nI d)]) (n := 3) (Nat.le_of_ble_eq_true rfl)
  rw [lg_entry_eq]
  generalize (lg_sl ([.ref h, .int (nI i), .int (nI d)]) ++ List.replicate (3 - (lg_sl ([.ref h, .int (nI i), .int (nI d)])).length) Slot.unset).toArray = ls at hl ⊢
  have hl : lv_has ls 3 [(0, .ref h), (1, .int (nI i)), (2, .int (nI d))] := hl
  refine lv_aload_n hx hb d_Near_note_0 rfl (lv_at hl 0 rfl) ?_
  refine va_get (D := (dC, dI)) (ci := 3) (v := .ref aT) (C := R_Near) (T := F_Near) (N := 2) hx hb hts hin_Near hown hK hP 0 rfl rfl 0 (by decide) (hts _ (nw_mc 262 rfl)) (fun _ h9 => h9) rfl d_Near_note_1 ?_
  refine lv_iload_n hx hb d_Near_note_4 rfl (lv_at hl 1 rfl) ?_
  refine lv_iload_n hx hb d_Near_note_5 rfl (lv_at hl 2 rfl) ?_
  refine lv_i2b (v := nI d) hx hb d_Near_note_6 (nw_b3 d hd) ?_
  refine nw_bawst hx hb hK hP hD hS 1 0 rfl rfl (k := i) (v := nI d) (by omega) (by decide) (nw_b3 d hd) d_Near_note_7 (fun H locs hP hD hS => ?_)
  replace hP : va_P (dC, dI) nw_cls [(h, .inr (3, [.ref aT, .ref aW])), (aT, nw_aw cB 1000 (upd T i (nI d))), (aW, nw_ai cI 4 Wc)] H := hP
  replace hD : va_D A [(h, .inr (3, [.ref aT, .ref aW])), (aT, nw_aw cB 1000 (upd T i (nI d))), (aW, nw_ai cI 4 Wc)] := hD
  refine lv_iload_n hx hb d_Near_note_8 rfl (lv_at hl 2 rfl) ?_
  refine lv_if_lt hx hb d_Near_note_9 (tgt := 22) (by decide) (fun g1 => ?_) (fun g1 => ?_)
  · rw [nw_lt0 (by omega)] at g1
    omega
  · rw [nw_lt0 (by omega)] at g1
    refine lv_aload_n hx hb d_Near_note_12 rfl (lv_at hl 0 rfl) ?_
    refine va_get (D := (dC, dI)) (ci := 3) (v := .ref aW) (C := R_Near) (T := F_Near) (N := 2) hx hb hts hin_Near hown hK hP 0 rfl rfl 1 (by decide) (hts _ (nw_mc 263 rfl)) (fun _ h9 => h9) rfl d_Near_note_13 ?_
    refine lv_iload_n hx hb d_Near_note_16 rfl (lv_at hl 2 rfl) ?_
    refine lv_dup2_11 hx hb d_Near_note_17 rfl rfl ?_
    refine nw_iald hx hb hK hP 2 1 rfl rfl (k := d) (by omega) (by first | decide | omega) d_Near_note_18 ?_
    refine lv_iconst (v := nI 1) hx hb d_Near_note_19 (by decide) ?_
    refine lv_iadd hx hb d_Near_note_20 ?_
    refine nw_ti (nI_add (Wc d) 1) ?_
    refine nw_iast hx hb hK hP hD hS 2 1 rfl rfl (k := d) (v := ((Wc d) + 1)) (by omega) (by first | decide | omega) d_Near_note_21 (fun H locs hP hD hS => ?_)
    replace hP : va_P (dC, dI) nw_cls [(h, .inr (3, [.ref aT, .ref aW])), (aT, nw_aw cB 1000 (upd T i (nI d))), (aW, nw_ai cI 4 (va_up Wc d ((Wc d) + 1)))] H := hP
    replace hD : va_D A [(h, .inr (3, [.ref aT, .ref aW])), (aT, nw_aw cB 1000 (upd T i (nI d))), (aW, nw_ai cI 4 (va_up Wc d ((Wc d) + 1)))] := hD
    exact W.vret hx hb hr (fun t ht hW => ⟨⟨(), rfl, trivial, by rw [ht]; exact hP, hD⟩, hS.F ht⟩) hS.2.2 d_Near_note_22

set_option maxHeartbeats 4000000 in
set_option maxRecDepth 100000 in
theorem c_Near_share (l : Launch) (dC : Nat → ClassId) (dI : Nat → Nat → Nat) (sz : Nat) (cI : ClassId) (h aT aW : Nat) (Wc : Nat → Nat) (hW : ∀ d, d < 4 → Wc d ≤ 1000) : Met l y_Near_shareRoom w_Near_shareRoom ({ frames := 1, cells := 0, slots := 0, locals := 15 }) (nw_Pw [.ref h] (dC, dI) nw_cls [(cI, .int)] [(h, .inr (3, [.ref aT, .ref aW])), (aW, nw_ai cI 4 Wc)] sz) (va_Qv (fun u : Nat → Nat => ∀ d, d < 4 → u d = min (Wc d) (50 - nw_sm Wc d)) (nw_B (dC, dI) nw_cls (va_A [(h, .inr (3, [.ref aT, .ref aW])), (aW, nw_ai cI 4 Wc)] sz) (fun u => [(h, .inr (3, [.ref aT, .ref aW])), (aW, nw_ai cI 4 u)])) (va_A [(h, .inr (3, [.ref aT, .ref aW])), (aW, nw_ai cI 4 Wc)] sz)) 0 0 (va_A [(h, .inr (3, [.ref aT, .ref aW])), (aW, nw_ai cI 4 Wc)] sz) := by
  refine Met.ofW (cc := b_Near_shareRoom) (maxL := 3) (ret := none) (by decide) rfl ?_
  intro p e s m args below meth cd s₁ B hml hv0
  obtain ⟨rfl, hsz, hP, hK, hD0⟩ := hv0
  have hx := B.exec
  have hb := B.bytes
  have hr := B.returns
  have hts := atoms_spec (ws := w_Near_shareRoom) B.pre
  have hown : s.vm.findClass R_Near = some m.cls := findClass_of_methodNamed B.named
  have hlocks := B.notSynchronized
  subst hsz
  have hD := hD0.self (sz := s.heap.size)
  generalize hAe : va_A [(h, .inr (3, [.ref aT, .ref aW])), (aW, nw_ai cI 4 Wc)] s.heap.size = A at hD ⊢
  have hA : ∀ q : Nat, s.heap.size ≤ q → A q := fun q h => by rw [← hAe]; exact Or.inr h
  have hS : va_S A s.heap s.heap [] := va_S.rf
  have hl := lv_entry ([.ref h]) (n := 3) (Nat.le_of_ble_eq_true rfl)
  rw [lg_entry_eq]
  generalize (lg_sl ([.ref h]) ++ List.replicate (3 - (lg_sl ([.ref h])).length) Slot.unset).toArray = ls at hl ⊢
  have hl : lv_has ls 3 [(0, .ref h)] := hl
  refine lv_bipush (v := nI 50) hx hb d_Near_shareRoom_0 (by decide) ?_
  refine lv_istore_n hx hb d_Near_shareRoom_2 rfl hl (by decide) rfl (fun ls hl => ?_)
  replace hl : lv_has ls 3 [(1, .int (nI 50)), (0, .ref h)] := hl
  refine lv_iconst (v := nI 0) hx hb d_Near_shareRoom_3 (by decide) ?_
  refine lv_istore_n hx hb d_Near_shareRoom_4 rfl hl (by decide) rfl (fun ls hl => ?_)
  replace hl : lv_has ls 3 [(2, .int (nI 0)), (1, .int (nI 50)), (0, .ref h)] := hl
  refine nw_loopW (σ := Nat × (Nat → Nat)) (fun x => match x with | (d, g) => d ≤ 4 ∧ (∀ j, j < d → g j = min (Wc j) (50 - nw_sm Wc j)) ∧ ∀ j, d ≤ j → g j = Wc j) (fun x => match x with | (d, g) => [(2, .int (nI d)), (1, .int (nI (50 - nw_sm Wc d))), (0, .ref h)]) (fun x => match x with | (d, g) => [(h, .inr (3, [.ref aT, .ref aW])), (aW, nw_ai cI 4 g)]) (fun x => match x with | (d, g) => 4 - d) (fun x hI ih ls H locs hl hP hD hS => ?_) (0, Wc) (⟨Nat.zero_le _, fun j hj => absurd hj (Nat.not_lt_zero j), fun _ _ => rfl⟩) hl hP hD hS
  obtain ⟨d, g⟩ := x
  replace hI : d ≤ 4 ∧ (∀ j, j < d → g j = min (Wc j) (50 - nw_sm Wc j)) ∧ ∀ j, d ≤ j → g j = Wc j := hI
  replace hl : lv_has ls 3 [(2, .int (nI d)), (1, .int (nI (50 - nw_sm Wc d))), (0, .ref h)] := hl
  replace hP : va_P (dC, dI) nw_cls [(h, .inr (3, [.ref aT, .ref aW])), (aW, nw_ai cI 4 g)] H := hP
  replace hD : va_D A [(h, .inr (3, [.ref aT, .ref aW])), (aW, nw_ai cI 4 g)] := hD
  obtain ⟨hd, hg1, hg2⟩ := hI
  refine lv_iload_n hx hb d_Near_shareRoom_5 rfl (lv_at hl 0 rfl) ?_
  refine lv_iconst (v := nI 3) hx hb d_Near_shareRoom_6 (by decide) ?_
  refine lv_icmp_gt hx hb d_Near_shareRoom_7 (tgt := 41) (by decide) (fun g1 => ?_) (fun g1 => ?_)
  · rw [nI_ltI (by omega) (by omega)] at g1
    exact W.vret hx hb hr (fun t ht hW => ⟨⟨g, rfl, fun j hj => hg1 j (by omega), by rw [ht]; exact hP, hD⟩, hS.F ht⟩) hS.2.2 d_Near_shareRoom_41
  · rw [nI_ltI (by omega) (by omega)] at g1
    have hgd := hg2 d (Nat.le_refl _)
    have hWd := hW d (by omega)
    refine lv_aload_n hx hb d_Near_shareRoom_10 rfl (lv_at hl 2 rfl) ?_
    refine va_get (D := (dC, dI)) (ci := 3) (v := .ref aW) (C := R_Near) (T := F_Near) (N := 2) hx hb hts hin_Near hown hK hP 0 rfl rfl 1 (by decide) (hts _ (nw_mc 263 rfl)) (fun _ h9 => h9) rfl d_Near_shareRoom_11 ?_
    refine lv_iload_n hx hb d_Near_shareRoom_14 rfl (lv_at hl 0 rfl) ?_
    refine lv_aload_n hx hb d_Near_shareRoom_15 rfl (lv_at hl 2 rfl) ?_
    refine va_get (D := (dC, dI)) (ci := 3) (v := .ref aW) (C := R_Near) (T := F_Near) (N := 2) hx hb hts hin_Near hown hK hP 0 rfl rfl 1 (by decide) (hts _ (nw_mc 263 rfl)) (fun _ h9 => h9) rfl d_Near_shareRoom_16 ?_
    refine lv_iload_n hx hb d_Near_shareRoom_19 rfl (lv_at hl 0 rfl) ?_
    refine nw_iald hx hb hK hP 1 0 rfl rfl (k := d) (by omega) (by first | decide | omega) d_Near_shareRoom_20 ?_
    refine lv_iload_n hx hb d_Near_shareRoom_21 rfl (lv_at hl 1 rfl) ?_
    refine va_mmin hx hb (hml.trans hl.1.symm) hown (hts _ (nw_mc 274 rfl)) (hts _ (nw_mc 105 rfl)) (hts _ (nw_mc 106 rfl)) (hts _ (nw_mc 107 rfl)) (Nat.le_of_ble_eq_true rfl) (Nat.le_of_ble_eq_true rfl) (Nat.le_of_ble_eq_true rfl) (Nat.le_of_ble_eq_true rfl) d_Near_shareRoom_22 ?_
    refine nw_ti (y := nI (min (Wc d) (50 - nw_sm Wc d))) ((nw_imin (by omega) (by omega)).trans (by rw [hgd])) ?_
    refine nw_iast hx hb hK hP hD hS 1 0 rfl rfl (k := d) (v := (min (Wc d) (50 - nw_sm Wc d))) (by omega) (by first | decide | omega) d_Near_shareRoom_25 (fun H locs hP hD hS => ?_)
    replace hP : va_P (dC, dI) nw_cls [(h, .inr (3, [.ref aT, .ref aW])), (aW, nw_ai cI 4 (va_up g d (min (Wc d) (50 - nw_sm Wc d))))] H := hP
    replace hD : va_D A [(h, .inr (3, [.ref aT, .ref aW])), (aW, nw_ai cI 4 (va_up g d (min (Wc d) (50 - nw_sm Wc d))))] := hD
    refine lv_iload_n hx hb d_Near_shareRoom_26 rfl (lv_at hl 1 rfl) ?_
    refine lv_aload_n hx hb d_Near_shareRoom_27 rfl (lv_at hl 2 rfl) ?_
    refine va_get (D := (dC, dI)) (ci := 3) (v := .ref aW) (C := R_Near) (T := F_Near) (N := 2) hx hb hts hin_Near hown hK hP 0 rfl rfl 1 (by decide) (hts _ (nw_mc 263 rfl)) (fun _ h9 => h9) rfl d_Near_shareRoom_28 ?_
    refine lv_iload_n hx hb d_Near_shareRoom_31 rfl (lv_at hl 0 rfl) ?_
    refine nw_iald hx hb hK hP 1 0 rfl rfl (k := d) (by omega) (by first | decide | omega) d_Near_shareRoom_32 ?_
    refine nw_ti (y := nI (min (Wc d) (50 - nw_sm Wc d))) (congrArg nI (by rw [va_up_self])) ?_
    refine lv_isub hx hb d_Near_shareRoom_33 ?_
    refine nw_ti (pk_sub (a := (50 - nw_sm Wc d)) (b := (min (Wc d) (50 - nw_sm Wc d))) (by omega)) ?_
    refine nw_ti (y := nI (50 - nw_sm Wc (d + 1))) (congrArg nI (show _ = 50 - (nw_sm Wc d + Wc d) by omega)) ?_
    refine lv_istore_n hx hb d_Near_shareRoom_34 rfl hl (by decide) rfl (fun ls hl => ?_)
    replace hl : lv_has ls 3 [(1, .int (nI (50 - nw_sm Wc (d + 1)))), (2, .int (nI d)), (0, .ref h)] := hl
    refine lv_iinc (v := nI (d + 1)) hx hb d_Near_shareRoom_35 hl (k := 1) rfl (nI_add d 1) (by decide) rfl (fun ls hl => ?_)
    have hl : lv_has ls 3 [(2, .int (nI (d + 1))), (1, .int (nI (50 - nw_sm Wc (d + 1)))), (0, .ref h)] := hl
    refine lv_goto hx hb d_Near_shareRoom_38 (tgt := 5) (by decide) ?_
    exact ih (d + 1, va_up g d (min (Wc d) (50 - nw_sm Wc d))) (⟨by omega, fun j hj => by
      by_cases e : j = d
      · rw [e, va_up_self]
      · rw [va_up_ne _ _ e]; exact hg1 j (by omega), fun j hj => by rw [va_up_ne _ _ (by omega)]; exact hg2 j (by omega)⟩) (show 4 - (d + 1) < 4 - d by omega) _ _ _ hl hP hD hS

set_option maxHeartbeats 4000000 in
set_option maxRecDepth 100000 in
theorem c_Near_moveTo (l : Launch) (dC : Nat → ClassId) (dI : Nat → Nat → Nat) (sz : Nat) (cB cF cI : ClassId) (h aT aW : Nat) (T : Nat → Int32) (Wc : Nat → Nat) (hR aC aL aS n : Nat) (RL RD rz : Nat → Nat) (M : Nat → Nat → Nat) (pl : va_W) (h1 a1 b1 n1 : Nat) (C st E : Nat → Nat) (ms : Nat) (hn1 : n1 ≤ 1000) (hms : ms ≤ 3) (hE : ∀ i, E i ≤ ms ∨ E i = 4) (hT : ∀ i, i < n1 → T i = nw_sv (E i)) (hWc : ∀ d, d < 4 → Wc d = nw_cnt (fun j => E j = d) n1) (hm : ∀ i, i < n1 → st i ≤ st (i + 1) ∧ st (i + 1) ≤ 12000 ∧ st (i + 1) - st i ≤ 60) (hC : ∀ j, C j < 128) : Met l y_Near_moveTo w_Near_moveTo ({ frames := 3, cells := 0, slots := 0, locals := 66 }) (nw_Pw [.ref h, .ref hR, .ref h1] (dC, dI) nw_cls [(cB, .byte), (cF, (.array .byte)), (cI, .int)] ([(h, .inr (3, [.ref aT, .ref aW])), (aT, nw_aw cB 1000 T), (aW, nw_ai cI 4 Wc), (hR, .inr (5, [.ref aC, .ref aL, .ref aS, .int (nI n)])), (aC, nw_ar cF 50 (fun k => some (rz k))), (aL, nw_ai cI 50 RL), (aS, nw_ai cI 50 RD), (h1, .inr (7, [.ref a1, .ref b1, .int (nI n1)])), (a1, nw_ai cB 12000 C), (b1, nw_ai cI 1001 st)] ++ (nw_rb 50 cB 60 rz M ++ pl)) sz) (va_Qv (fun u : (Nat → Nat) × (Nat → Nat) × (Nat → Nat) × (Nat → Nat → Nat) => nw_kp (nw_sl E n1 ms) E n1 (fun i k => C (st i + k)) (fun i => st (i + 1) - st i) u.2.2.2 u.2.1 u.2.2.1) (nw_B (dC, dI) nw_cls (va_A ([(h, .inr (3, [.ref aT, .ref aW])), (aT, nw_aw cB 1000 T), (aW, nw_ai cI 4 Wc), (hR, .inr (5, [.ref aC, .ref aL, .ref aS, .int (nI n)])), (aC, nw_ar cF 50 (fun k => some (rz k))), (aL, nw_ai cI 50 RL), (aS, nw_ai cI 50 RD), (h1, .inr (7, [.ref a1, .ref b1, .int (nI n1)])), (a1, nw_ai cB 12000 C), (b1, nw_ai cI 1001 st)] ++ (nw_rb 50 cB 60 rz M ++ pl)) sz) (fun u => ([(h, .inr (3, [.ref aT, .ref aW])), (aT, nw_aw cB 1000 T), (aW, nw_ai cI 4 u.1), (hR, .inr (5, [.ref aC, .ref aL, .ref aS, .int (nI (nw_cnt (nw_sl E n1 ms) n1))])), (aC, nw_ar cF 50 (fun k => some (rz k))), (aL, nw_ai cI 50 u.2.1), (aS, nw_ai cI 50 u.2.2.1), (h1, .inr (7, [.ref a1, .ref b1, .int (nI n1)])), (a1, nw_ai cB 12000 C), (b1, nw_ai cI 1001 st)] ++ (nw_rb 50 cB 60 rz u.2.2.2 ++ pl)))) (va_A ([(h, .inr (3, [.ref aT, .ref aW])), (aT, nw_aw cB 1000 T), (aW, nw_ai cI 4 Wc), (hR, .inr (5, [.ref aC, .ref aL, .ref aS, .int (nI n)])), (aC, nw_ar cF 50 (fun k => some (rz k))), (aL, nw_ai cI 50 RL), (aS, nw_ai cI 50 RD), (h1, .inr (7, [.ref a1, .ref b1, .int (nI n1)])), (a1, nw_ai cB 12000 C), (b1, nw_ai cI 1001 st)] ++ (nw_rb 50 cB 60 rz M ++ pl)) sz)) 0 0 (va_A ([(h, .inr (3, [.ref aT, .ref aW])), (aT, nw_aw cB 1000 T), (aW, nw_ai cI 4 Wc), (hR, .inr (5, [.ref aC, .ref aL, .ref aS, .int (nI n)])), (aC, nw_ar cF 50 (fun k => some (rz k))), (aL, nw_ai cI 50 RL), (aS, nw_ai cI 50 RD), (h1, .inr (7, [.ref a1, .ref b1, .int (nI n1)])), (a1, nw_ai cB 12000 C), (b1, nw_ai cI 1001 st)] ++ (nw_rb 50 cB 60 rz M ++ pl)) sz) := by
  refine Met.ofW (cc := b_Near_moveTo) (maxL := 5) (ret := none) (by decide) rfl ?_
  intro p e s m args below meth cd s₁ B hml hv0
  obtain ⟨rfl, hsz, hP, hK, hD0⟩ := hv0
  have hx := B.exec
  have hb := B.bytes
  have hr := B.returns
  have hts := atoms_spec (ws := w_Near_moveTo) B.pre
  have hown : s.vm.findClass R_Near = some m.cls := findClass_of_methodNamed B.named
  have hlocks := B.notSynchronized
  subst hsz
  have hD := hD0.self (sz := s.heap.size)
  generalize hAe : va_A ([(h, .inr (3, [.ref aT, .ref aW])), (aT, nw_aw cB 1000 T), (aW, nw_ai cI 4 Wc), (hR, .inr (5, [.ref aC, .ref aL, .ref aS, .int (nI n)])), (aC, nw_ar cF 50 (fun k => some (rz k))), (aL, nw_ai cI 50 RL), (aS, nw_ai cI 50 RD), (h1, .inr (7, [.ref a1, .ref b1, .int (nI n1)])), (a1, nw_ai cB 12000 C), (b1, nw_ai cI 1001 st)] ++ (nw_rb 50 cB 60 rz M ++ pl)) s.heap.size = A at hD ⊢
  have hA : ∀ q : Nat, s.heap.size ≤ q → A q := fun q h => by rw [← hAe]; exact Or.inr h
  have hS : va_S A s.heap s.heap [] := va_S.rf
  have hl := lv_entry ([.ref h, .ref hR, .ref h1]) (n := 5) (Nat.le_of_ble_eq_true rfl)
  rw [lg_entry_eq]
  generalize (lg_sl ([.ref h, .ref hR, .ref h1]) ++ List.replicate (5 - (lg_sl ([.ref h, .ref hR, .ref h1])).length) Slot.unset).toArray = ls at hl ⊢
  have hl : lv_has ls 5 [(0, .ref h), (1, .ref hR), (2, .ref h1)] := hl
  have hW9 : ∀ d, d < 4 → Wc d ≤ 1000 := fun d hd => by rw [hWc d hd]; have := nw_cnt_le (fun j => E j = d) n1; omega
  refine lv_aload_n hx hb d_Near_moveTo_0 rfl (lv_at hl 0 rfl) ?_
  refine nw_callvQ (wc := [(h, .inr (3, [.ref aT, .ref aW])), (aW, nw_ai cI 4 Wc)]) (wr := [(aT, nw_aw cB 1000 T), (hR, .inr (5, [.ref aC, .ref aL, .ref aS, .int (nI n)])), (aC, nw_ar cF 50 (fun k => some (rz k))), (aL, nw_ai cI 50 RL), (aS, nw_ai cI 50 RD), (h1, .inr (7, [.ref a1, .ref b1, .int (nI n1)])), (a1, nw_ai cB 12000 C), (b1, nw_ai cI 1001 st)]) hP hD hS hA [0, 2] [1, 3, 4, 5, 6, 7, 8, 9] rfl rfl (by decide) (by decide) (va_runV (As := []) (rest := []) ⟨hx, hb, hml, hown, hts⟩ (c_Near_share l dC dI _ cI h aT aW Wc hW9) (cwV (C := R_Near) 0 hts (nw_GV (nw_m 267 rfl) (nw_m 268 rfl) (nw_m 269 rfl) (nw_m 37 rfl) (nw_m 270 rfl)) rfl rfl rfl (by decide +kernel) ⟨Nat.le_of_ble_eq_true rfl, Nat.le_of_ble_eq_true rfl⟩) (nw_prewV (q0 := 0) (ci := 3) (q := (R_Near, F_Near, 2)) hK hP hD [0, 2] [2] (by decide) rfl rfl rfl rfl) rfl rfl hl.1 rfl (lv_room (Nat.le_of_ble_eq_true rfl)) d_Near_moveTo_1 ⟨Nat.le_of_ble_eq_true rfl, Nat.le_of_ble_eq_true rfl⟩) (fun u H locs hw hP hD hS => ?_)
  replace hP : va_P (dC, dI) nw_cls ([(aT, nw_aw cB 1000 T), (hR, .inr (5, [.ref aC, .ref aL, .ref aS, .int (nI n)])), (aC, nw_ar cF 50 (fun k => some (rz k))), (aL, nw_ai cI 50 RL), (aS, nw_ai cI 50 RD), (h1, .inr (7, [.ref a1, .ref b1, .int (nI n1)])), (a1, nw_ai cB 12000 C), (b1, nw_ai cI 1001 st), (h, .inr (3, [.ref aT, .ref aW])), (aW, nw_ai cI 4 u)] ++ (nw_rb 50 cB 60 rz M ++ pl)) H := hP
  replace hD : va_D A ([(aT, nw_aw cB 1000 T), (hR, .inr (5, [.ref aC, .ref aL, .ref aS, .int (nI n)])), (aC, nw_ar cF 50 (fun k => some (rz k))), (aL, nw_ai cI 50 RL), (aS, nw_ai cI 50 RD), (h1, .inr (7, [.ref a1, .ref b1, .int (nI n1)])), (a1, nw_ai cB 12000 C), (b1, nw_ai cI 1001 st), (h, .inr (3, [.ref aT, .ref aW])), (aW, nw_ai cI 4 u)] ++ (nw_rb 50 cB 60 rz M ++ pl)) := hD
  have hu0 := hw
  have hP := hP.part (cx := [(h, .inr (3, [.ref aT, .ref aW])), (aT, nw_aw cB 1000 T), (aW, nw_ai cI 4 u), (hR, .inr (5, [.ref aC, .ref aL, .ref aS, .int (nI n)])), (aC, nw_ar cF 50 (fun k => some (rz k))), (aL, nw_ai cI 50 RL), (aS, nw_ai cI 50 RD), (h1, .inr (7, [.ref a1, .ref b1, .int (nI n1)])), (a1, nw_ai cB 12000 C), (b1, nw_ai cI 1001 st)]) [8, 0, 9, 1, 2, 3, 4, 5, 6, 7] rfl
  have hD := hD.part (cx := [(h, .inr (3, [.ref aT, .ref aW])), (aT, nw_aw cB 1000 T), (aW, nw_ai cI 4 u), (hR, .inr (5, [.ref aC, .ref aL, .ref aS, .int (nI n)])), (aC, nw_ar cF 50 (fun k => some (rz k))), (aL, nw_ai cI 50 RL), (aS, nw_ai cI 50 RD), (h1, .inr (7, [.ref a1, .ref b1, .int (nI n1)])), (a1, nw_ai cB 12000 C), (b1, nw_ai cI 1001 st)]) [8, 0, 9, 1, 2, 3, 4, 5, 6, 7] (by decide) rfl
  refine lv_aload_n hx hb d_Near_moveTo_4 rfl (lv_at hl 1 rfl) ?_
  refine nw_callvQ (wc := [(hR, .inr (5, [.ref aC, .ref aL, .ref aS, .int (nI n)]))]) (wr := [(h, .inr (3, [.ref aT, .ref aW])), (aT, nw_aw cB 1000 T), (aW, nw_ai cI 4 u), (aC, nw_ar cF 50 (fun k => some (rz k))), (aL, nw_ai cI 50 RL), (aS, nw_ai cI 50 RD), (h1, .inr (7, [.ref a1, .ref b1, .int (nI n1)])), (a1, nw_ai cB 12000 C), (b1, nw_ai cI 1001 st)]) hP hD hS hA [3] [0, 1, 2, 4, 5, 6, 7, 8, 9] rfl rfl (by decide) (by decide) (va_runV (As := []) (rest := []) ⟨hx, hb, hml, hown, hts⟩ (c_Res_clear l dC dI _ hR aC aL aS n) (cwV (C := R_Res) 0 hts (nw_GV (nw_m 271 rfl) (nw_m 129 rfl) (nw_m 130 rfl) (nw_m 18 rfl) (nw_m 131 rfl)) rfl rfl rfl (by decide +kernel) ⟨Nat.le_of_ble_eq_true rfl, Nat.le_of_ble_eq_true rfl⟩) (nw_prewV (q0 := 3) (ci := 5) (q := (R_Res, F_Res, 4)) hK hP hD [3] [] (by decide) rfl rfl rfl rfl) rfl rfl hl.1 rfl (lv_room (Nat.le_of_ble_eq_true rfl)) d_Near_moveTo_5 ⟨Nat.le_of_ble_eq_true rfl, Nat.le_of_ble_eq_true rfl⟩) (fun _ H locs hw hP hD hS => ?_)
  replace hP : va_P (dC, dI) nw_cls ([(h, .inr (3, [.ref aT, .ref aW])), (aT, nw_aw cB 1000 T), (aW, nw_ai cI 4 u), (aC, nw_ar cF 50 (fun k => some (rz k))), (aL, nw_ai cI 50 RL), (aS, nw_ai cI 50 RD), (h1, .inr (7, [.ref a1, .ref b1, .int (nI n1)])), (a1, nw_ai cB 12000 C), (b1, nw_ai cI 1001 st), (hR, .inr (5, [.ref aC, .ref aL, .ref aS, .int (nI 0)]))] ++ (nw_rb 50 cB 60 rz M ++ pl)) H := hP
  replace hD : va_D A ([(h, .inr (3, [.ref aT, .ref aW])), (aT, nw_aw cB 1000 T), (aW, nw_ai cI 4 u), (aC, nw_ar cF 50 (fun k => some (rz k))), (aL, nw_ai cI 50 RL), (aS, nw_ai cI 50 RD), (h1, .inr (7, [.ref a1, .ref b1, .int (nI n1)])), (a1, nw_ai cB 12000 C), (b1, nw_ai cI 1001 st), (hR, .inr (5, [.ref aC, .ref aL, .ref aS, .int (nI 0)]))] ++ (nw_rb 50 cB 60 rz M ++ pl)) := hD
  have hP := hP.part (cx := [(h, .inr (3, [.ref aT, .ref aW])), (aT, nw_aw cB 1000 T), (aW, nw_ai cI 4 u), (hR, .inr (5, [.ref aC, .ref aL, .ref aS, .int (nI 0)])), (aC, nw_ar cF 50 (fun k => some (rz k))), (aL, nw_ai cI 50 RL), (aS, nw_ai cI 50 RD), (h1, .inr (7, [.ref a1, .ref b1, .int (nI n1)])), (a1, nw_ai cB 12000 C), (b1, nw_ai cI 1001 st)]) [0, 1, 2, 9, 3, 4, 5, 6, 7, 8] rfl
  have hD := hD.part (cx := [(h, .inr (3, [.ref aT, .ref aW])), (aT, nw_aw cB 1000 T), (aW, nw_ai cI 4 u), (hR, .inr (5, [.ref aC, .ref aL, .ref aS, .int (nI 0)])), (aC, nw_ar cF 50 (fun k => some (rz k))), (aL, nw_ai cI 50 RL), (aS, nw_ai cI 50 RD), (h1, .inr (7, [.ref a1, .ref b1, .int (nI n1)])), (a1, nw_ai cB 12000 C), (b1, nw_ai cI 1001 st)]) [0, 1, 2, 9, 3, 4, 5, 6, 7, 8] (by decide) rfl
  refine lv_iconst (v := nI 0) hx hb d_Near_moveTo_8 (by decide) ?_
  refine lv_istore_n hx hb d_Near_moveTo_9 rfl hl (by decide) rfl (fun ls hl => ?_)
  replace hl : lv_has ls 5 [(3, .int (nI 0)), (0, .ref h), (1, .ref hR), (2, .ref h1)] := hl
  have hu : ∀ d, d < 4 → u d = nw_lf E n1 d 0 := fun d hd => by
    have e1 := hu0 d hd
    have e2 : nw_sm Wc d = nw_sm (fun d' => nw_cnt (fun j => E j = d') n1) d := nw_sm_congr (fun j hj => hWc j (by omega))
    rw [e1, hWc d hd, e2]
    unfold nw_lf
    show _ = _ - min 0 _
    omega
  refine nw_loopW (σ := Nat × (Nat → Nat) × (Nat → Nat) × (Nat → Nat) × (Nat → Nat → Nat)) (fun x => match x with | (i, g, rl, rd, M1) => i ≤ n1 ∧ (∀ d, d < 4 → g d = nw_lf E n1 d i) ∧ nw_kp (nw_sl E n1 ms) E i (fun i k => C (st i + k)) (fun i => st (i + 1) - st i) M1 rl rd) (fun x => match x with | (i, g, rl, rd, M1) => [(3, .int (nI i)), (2, .ref h1), (1, .ref hR), (0, .ref h)]) (fun x => match x with | (i, g, rl, rd, M1) => ([(h, .inr (3, [.ref aT, .ref aW])), (aT, nw_aw cB 1000 T), (aW, nw_ai cI 4 g), (hR, .inr (5, [.ref aC, .ref aL, .ref aS, .int (nI (nw_cnt (nw_sl E n1 ms) i))])), (aC, nw_ar cF 50 (fun k => some (rz k))), (aL, nw_ai cI 50 rl), (aS, nw_ai cI 50 rd), (h1, .inr (7, [.ref a1, .ref b1, .int (nI n1)])), (a1, nw_ai cB 12000 C), (b1, nw_ai cI 1001 st)] ++ (nw_rb 50 cB 60 rz M1 ++ pl))) (fun x => match x with | (i, g, rl, rd, M1) => n1 - i) (fun x hI ih ls H locs hl hP hD hS => ?_) (0, u, RL, RD, M) (⟨Nat.zero_le _, hu, nw_kp_0⟩) (lv_sub hl [0, 3, 2, 1] rfl) hP hD hS
  obtain ⟨i, g, rl, rd, M1⟩ := x
  replace hI : i ≤ n1 ∧ (∀ d, d < 4 → g d = nw_lf E n1 d i) ∧ nw_kp (nw_sl E n1 ms) E i (fun i k => C (st i + k)) (fun i => st (i + 1) - st i) M1 rl rd := hI
  replace hl : lv_has ls 5 [(3, .int (nI i)), (2, .ref h1), (1, .ref hR), (0, .ref h)] := hl
  replace hP : va_P (dC, dI) nw_cls ([(h, .inr (3, [.ref aT, .ref aW])), (aT, nw_aw cB 1000 T), (aW, nw_ai cI 4 g), (hR, .inr (5, [.ref aC, .ref aL, .ref aS, .int (nI (nw_cnt (nw_sl E n1 ms) i))])), (aC, nw_ar cF 50 (fun k => some (rz k))), (aL, nw_ai cI 50 rl), (aS, nw_ai cI 50 rd), (h1, .inr (7, [.ref a1, .ref b1, .int (nI n1)])), (a1, nw_ai cB 12000 C), (b1, nw_ai cI 1001 st)] ++ (nw_rb 50 cB 60 rz M1 ++ pl)) H := hP
  replace hD : va_D A ([(h, .inr (3, [.ref aT, .ref aW])), (aT, nw_aw cB 1000 T), (aW, nw_ai cI 4 g), (hR, .inr (5, [.ref aC, .ref aL, .ref aS, .int (nI (nw_cnt (nw_sl E n1 ms) i))])), (aC, nw_ar cF 50 (fun k => some (rz k))), (aL, nw_ai cI 50 rl), (aS, nw_ai cI 50 rd), (h1, .inr (7, [.ref a1, .ref b1, .int (nI n1)])), (a1, nw_ai cB 12000 C), (b1, nw_ai cI 1001 st)] ++ (nw_rb 50 cB 60 rz M1 ++ pl)) := hD
  obtain ⟨hi, hg, hkp⟩ := hI
  refine lv_iload_n hx hb d_Near_moveTo_10 rfl (lv_at hl 0 rfl) ?_
  refine lv_aload_n hx hb d_Near_moveTo_11 rfl (lv_at hl 1 rfl) ?_
  refine vp_callSi (va_Run.run (va_runV (As := []) (rest := [.int (nI i)]) ⟨hx, hb, hml, hown, hts⟩ (c_WL_size l dC dI h1 a1 b1 n1) (cwV (C := R_WL) 0 hts (nw_GV (nw_m 272 rfl) (nw_m 77 rfl) (nw_m 78 rfl) (nw_m 12 rfl) (nw_m 79 rfl)) rfl rfl rfl (by decide +kernel) ⟨Nat.le_of_ble_eq_true rfl, Nat.le_of_ble_eq_true rfl⟩) (nw_preV (q0 := 7) (ci := 7) (q := (R_WL, F_WL, 3)) hK hP [7] [] rfl rfl rfl rfl) rfl rfl hl.1 rfl (lv_room (Nat.le_of_ble_eq_true rfl)) d_Near_moveTo_12 ⟨Nat.le_of_ble_eq_true rfl, Nat.le_of_ble_eq_true rfl⟩)) (fun r her => ?_)
  subst her
  refine lv_icmp_ge hx hb d_Near_moveTo_15 (tgt := 66) (by decide) (fun g1 => ?_) (fun g1 => ?_)
  · rw [nI_leI (by omega) (by omega)] at g1
    have hin : i = n1 := by omega
    rw [hin] at hkp hP hD
    replace hP : va_P (dC, dI) nw_cls ([(h, .inr (3, [.ref aT, .ref aW])), (aT, nw_aw cB 1000 T), (aW, nw_ai cI 4 g), (hR, .inr (5, [.ref aC, .ref aL, .ref aS, .int (nI (nw_cnt (nw_sl E n1 ms) n1))])), (aC, nw_ar cF 50 (fun k => some (rz k))), (aL, nw_ai cI 50 rl), (aS, nw_ai cI 50 rd), (h1, .inr (7, [.ref a1, .ref b1, .int (nI n1)])), (a1, nw_ai cB 12000 C), (b1, nw_ai cI 1001 st)] ++ (nw_rb 50 cB 60 rz M1 ++ pl)) H := hP
    replace hD : va_D A ([(h, .inr (3, [.ref aT, .ref aW])), (aT, nw_aw cB 1000 T), (aW, nw_ai cI 4 g), (hR, .inr (5, [.ref aC, .ref aL, .ref aS, .int (nI (nw_cnt (nw_sl E n1 ms) n1))])), (aC, nw_ar cF 50 (fun k => some (rz k))), (aL, nw_ai cI 50 rl), (aS, nw_ai cI 50 rd), (h1, .inr (7, [.ref a1, .ref b1, .int (nI n1)])), (a1, nw_ai cB 12000 C), (b1, nw_ai cI 1001 st)] ++ (nw_rb 50 cB 60 rz M1 ++ pl)) := hD
    exact W.vret hx hb hr (fun t ht hW => ⟨⟨(g, rl, rd, M1), rfl, hkp, by rw [ht]; exact hP, hD⟩, hS.F ht⟩) hS.2.2 d_Near_moveTo_66
  · rw [nI_leI (by omega) (by omega)] at g1
    have hi1 : i < n1 := by omega
    have hTi := hT i hi1
    refine lv_aload_n hx hb d_Near_moveTo_18 rfl (lv_at hl 3 rfl) ?_
    refine va_get (D := (dC, dI)) (ci := 3) (v := .ref aT) (C := R_Near) (T := F_Near) (N := 2) hx hb hts hin_Near hown hK hP 0 rfl rfl 0 (by decide) (hts _ (nw_mc 262 rfl)) (fun _ h9 => h9) rfl d_Near_moveTo_19 ?_
    refine lv_iload_n hx hb d_Near_moveTo_22 rfl (lv_at hl 0 rfl) ?_
    refine nw_bawd hx hb hK hP 1 0 rfl rfl (k := i) (by omega) (by first | decide | omega) d_Near_moveTo_23 ?_
    by_cases hEi : E i ≤ ms
    · refine nw_ti (y := nI (E i)) (by rw [hTi]; exact nw_sv_y (by omega)) ?_
      refine lv_istore hx hb d_Near_moveTo_24 hl (by decide) rfl (fun ls hl => ?_)
      replace hl : lv_has ls 5 [(4, .int (nI (E i))), (3, .int (nI i)), (2, .ref h1), (1, .ref hR), (0, .ref h)] := hl
      refine lv_iload hx hb d_Near_moveTo_26 (lv_at hl 0 rfl) ?_
      refine lv_if_lt hx hb d_Near_moveTo_28 (tgt := 60) (by decide) (fun g2 => ?_) (fun g2 => ?_)
      · rw [nw_lt0 (by omega)] at g2
        omega
      · rw [nw_lt0 (by omega)] at g2
        have hgE := hg (E i) (by omega)
        have hlb : nw_lf E n1 (E i) i ≤ 1000 := by
          have := nw_cnt_le (fun j => E j = E i) n1
          unfold nw_lf; omega
        refine lv_aload_n hx hb d_Near_moveTo_31 rfl (lv_at hl 4 rfl) ?_
        refine va_get (D := (dC, dI)) (ci := 3) (v := .ref aW) (C := R_Near) (T := F_Near) (N := 2) hx hb hts hin_Near hown hK hP 0 rfl rfl 1 (by decide) (hts _ (nw_mc 263 rfl)) (fun _ h9 => h9) rfl d_Near_moveTo_32 ?_
        refine lv_iload hx hb d_Near_moveTo_35 (lv_at hl 0 rfl) ?_
        refine nw_iald hx hb hK hP 2 2 rfl rfl (k := (E i)) (by omega) (by first | decide | omega) d_Near_moveTo_37 ?_
        refine lv_if_le hx hb d_Near_moveTo_38 (tgt := 60) (by decide) (fun g3 => ?_) (fun g3 => ?_)
        · rw [nw_le0 (by omega)] at g3
          have hns : ¬ (nw_sl E n1 ms) i := fun h => by have := (nw_lf_pos (E := E) hi1).mpr h.2; omega
          have hcn := nw_cnt_neg (f := (nw_sl E n1 ms)) hns
          refine lv_iinc (v := nI (i + 1)) hx hb d_Near_moveTo_60 hl (k := 1) rfl (nI_add i 1) (by decide) rfl (fun ls hl => ?_)
          have hl : lv_has ls 5 [(3, .int (nI (i + 1))), (4, .int (nI (E i))), (2, .ref h1), (1, .ref hR), (0, .ref h)] := hl
          refine lv_goto hx hb d_Near_moveTo_63 (tgt := 10) (by decide) ?_
          rw [← hcn] at hP hD
          replace hP : va_P (dC, dI) nw_cls ([(h, .inr (3, [.ref aT, .ref aW])), (aT, nw_aw cB 1000 T), (aW, nw_ai cI 4 g), (hR, .inr (5, [.ref aC, .ref aL, .ref aS, .int (nI (nw_cnt (nw_sl E n1 ms) (i + 1)))])), (aC, nw_ar cF 50 (fun k => some (rz k))), (aL, nw_ai cI 50 rl), (aS, nw_ai cI 50 rd), (h1, .inr (7, [.ref a1, .ref b1, .int (nI n1)])), (a1, nw_ai cB 12000 C), (b1, nw_ai cI 1001 st)] ++ (nw_rb 50 cB 60 rz M1 ++ pl)) H := hP
          replace hD : va_D A ([(h, .inr (3, [.ref aT, .ref aW])), (aT, nw_aw cB 1000 T), (aW, nw_ai cI 4 g), (hR, .inr (5, [.ref aC, .ref aL, .ref aS, .int (nI (nw_cnt (nw_sl E n1 ms) (i + 1)))])), (aC, nw_ar cF 50 (fun k => some (rz k))), (aL, nw_ai cI 50 rl), (aS, nw_ai cI 50 rd), (h1, .inr (7, [.ref a1, .ref b1, .int (nI n1)])), (a1, nw_ai cB 12000 C), (b1, nw_ai cI 1001 st)] ++ (nw_rb 50 cB 60 rz M1 ++ pl)) := hD
          exact ih (i + 1, g, rl, rd, M1) (⟨by omega, fun d hd => (hg d hd).trans (show nw_lf E n1 d (i + 1) = nw_lf E n1 d i from by
            by_cases e : E i = d
            · subst e; exact nw_lf_same hi1 (by omega)
            · exact nw_lf_other e).symm, nw_kp_no hkp hns⟩) (show n1 - (i + 1) < n1 - i by omega) _ _ _ (lv_sub hl [0, 2, 3, 4] rfl) hP hD hS
        · rw [nw_le0 (by omega)] at g3
          have hgp : 0 < nw_lf E n1 (E i) i := by omega
          have hsl : (nw_sl E n1 ms) i := ⟨hEi, (nw_lf_pos hi1).mp hgp⟩
          have hc50 := nw_cnt_lt (f := (nw_sl E n1 ms)) hi1 hsl
          have hall := nw_sl_le E n1 ms
          have hcp := nw_cnt_pos (f := (nw_sl E n1 ms)) hsl
          refine lv_aload_n hx hb d_Near_moveTo_41 rfl (lv_at hl 4 rfl) ?_
          refine va_get (D := (dC, dI)) (ci := 3) (v := .ref aW) (C := R_Near) (T := F_Near) (N := 2) hx hb hts hin_Near hown hK hP 0 rfl rfl 1 (by decide) (hts _ (nw_mc 263 rfl)) (fun _ h9 => h9) rfl d_Near_moveTo_42 ?_
          refine lv_iload hx hb d_Near_moveTo_45 (lv_at hl 0 rfl) ?_
          refine lv_dup2_11 hx hb d_Near_moveTo_47 rfl rfl ?_
          refine nw_iald hx hb hK hP 2 2 rfl rfl (k := (E i)) (by omega) (by first | decide | omega) d_Near_moveTo_48 ?_
          refine lv_iconst (v := nI 1) hx hb d_Near_moveTo_49 (by decide) ?_
          refine lv_isub hx hb d_Near_moveTo_50 ?_
          refine nw_ti (pk_sub (a := (g (E i))) (b := 1) (by omega)) ?_
          refine nw_iast hx hb hK hP hD hS 2 2 rfl rfl (k := (E i)) (v := ((g (E i)) - 1)) (by omega) (by first | decide | omega) d_Near_moveTo_51 (fun H locs hP hD hS => ?_)
          replace hP : va_P (dC, dI) nw_cls ([(h, .inr (3, [.ref aT, .ref aW])), (aT, nw_aw cB 1000 T), (aW, nw_ai cI 4 (va_up g (E i) ((g (E i)) - 1))), (hR, .inr (5, [.ref aC, .ref aL, .ref aS, .int (nI (nw_cnt (nw_sl E n1 ms) i))])), (aC, nw_ar cF 50 (fun k => some (rz k))), (aL, nw_ai cI 50 rl), (aS, nw_ai cI 50 rd), (h1, .inr (7, [.ref a1, .ref b1, .int (nI n1)])), (a1, nw_ai cB 12000 C), (b1, nw_ai cI 1001 st)] ++ (nw_rb 50 cB 60 rz M1 ++ pl)) H := hP
          replace hD : va_D A ([(h, .inr (3, [.ref aT, .ref aW])), (aT, nw_aw cB 1000 T), (aW, nw_ai cI 4 (va_up g (E i) ((g (E i)) - 1))), (hR, .inr (5, [.ref aC, .ref aL, .ref aS, .int (nI (nw_cnt (nw_sl E n1 ms) i))])), (aC, nw_ar cF 50 (fun k => some (rz k))), (aL, nw_ai cI 50 rl), (aS, nw_ai cI 50 rd), (h1, .inr (7, [.ref a1, .ref b1, .int (nI n1)])), (a1, nw_ai cB 12000 C), (b1, nw_ai cI 1001 st)] ++ (nw_rb 50 cB 60 rz M1 ++ pl)) := hD
          refine lv_aload_n hx hb d_Near_moveTo_52 rfl (lv_at hl 3 rfl) ?_
          refine lv_aload_n hx hb d_Near_moveTo_53 rfl (lv_at hl 2 rfl) ?_
          refine lv_iload_n hx hb d_Near_moveTo_54 rfl (lv_at hl 1 rfl) ?_
          refine lv_iload hx hb d_Near_moveTo_55 (lv_at hl 0 rfl) ?_
          refine nw_callvP (wc := [(hR, .inr (5, [.ref aC, .ref aL, .ref aS, .int (nI (nw_cnt (nw_sl E n1 ms) i))])), (aC, nw_ar cF 50 (fun k => some (rz k))), (aL, nw_ai cI 50 rl), (aS, nw_ai cI 50 rd), (h1, .inr (7, [.ref a1, .ref b1, .int (nI n1)])), (a1, nw_ai cB 12000 C), (b1, nw_ai cI 1001 st)]) (wr := [(h, .inr (3, [.ref aT, .ref aW])), (aT, nw_aw cB 1000 T), (aW, nw_ai cI 4 (va_up g (E i) ((g (E i)) - 1)))]) hP hD hS hA [3, 4, 5, 6, 7, 8, 9] [0, 1, 2] rfl rfl (by decide) (by decide) (va_runV (As := [.ref h1, .int (nI i), .int (nI (E i))]) (rest := []) ⟨hx, hb, hml, hown, hts⟩ (c_Res_keep l dC dI _ cB cF cI hR aC aL aS (nw_cnt (nw_sl E n1 ms) i) rl rd rz M1 pl h1 a1 b1 n1 C st i (E i) (by omega) (by omega) (hm i hi1) hC) (cwV (C := R_Res) 3 hts (nw_GV (nw_m 273 rfl) (nw_m 137 rfl) (nw_m 138 rfl) (nw_m 18 rfl) (nw_m 139 rfl)) rfl rfl rfl (by decide +kernel) ⟨Nat.le_of_ble_eq_true rfl, Nat.le_of_ble_eq_true rfl⟩) (nw_prewVP (q0 := 3) (ci := 5) (q := (R_Res, F_Res, 4)) hK hP hD [3, 4, 5, 6, 7, 8, 9] [0, 1, 2] (by decide) rfl rfl rfl rfl) rfl rfl hl.1 rfl (lv_room (Nat.le_of_ble_eq_true rfl)) d_Near_moveTo_57 ⟨Nat.le_of_ble_eq_true rfl, Nat.le_of_ble_eq_true rfl⟩) (fun _ H locs hw hP hD hS => ?_)
          replace hP : va_P (dC, dI) nw_cls ([(h, .inr (3, [.ref aT, .ref aW])), (aT, nw_aw cB 1000 T), (aW, nw_ai cI 4 (va_up g (E i) ((g (E i)) - 1))), (hR, .inr (5, [.ref aC, .ref aL, .ref aS, .int (nI ((nw_cnt (nw_sl E n1 ms) i) + 1))])), (aC, nw_ar cF 50 (fun k => some (rz k))), (aL, nw_ai cI 50 (va_up rl (nw_cnt (nw_sl E n1 ms) i) (st (i + 1) - st i))), (aS, nw_ai cI 50 (va_up rd (nw_cnt (nw_sl E n1 ms) i) (E i))), (h1, .inr (7, [.ref a1, .ref b1, .int (nI n1)])), (a1, nw_ai cB 12000 C), (b1, nw_ai cI 1001 st)] ++ (nw_rb 50 cB 60 rz (va_up M1 (nw_cnt (nw_sl E n1 ms) i) (va_cpy C (M1 (nw_cnt (nw_sl E n1 ms) i)) (st i) 0 (st (i + 1) - st i))) ++ pl)) H := hP
          replace hD : va_D A ([(h, .inr (3, [.ref aT, .ref aW])), (aT, nw_aw cB 1000 T), (aW, nw_ai cI 4 (va_up g (E i) ((g (E i)) - 1))), (hR, .inr (5, [.ref aC, .ref aL, .ref aS, .int (nI ((nw_cnt (nw_sl E n1 ms) i) + 1))])), (aC, nw_ar cF 50 (fun k => some (rz k))), (aL, nw_ai cI 50 (va_up rl (nw_cnt (nw_sl E n1 ms) i) (st (i + 1) - st i))), (aS, nw_ai cI 50 (va_up rd (nw_cnt (nw_sl E n1 ms) i) (E i))), (h1, .inr (7, [.ref a1, .ref b1, .int (nI n1)])), (a1, nw_ai cB 12000 C), (b1, nw_ai cI 1001 st)] ++ (nw_rb 50 cB 60 rz (va_up M1 (nw_cnt (nw_sl E n1 ms) i) (va_cpy C (M1 (nw_cnt (nw_sl E n1 ms) i)) (st i) 0 (st (i + 1) - st i))) ++ pl)) := hD
          rw [← hcp] at hP hD
          replace hP : va_P (dC, dI) nw_cls ([(h, .inr (3, [.ref aT, .ref aW])), (aT, nw_aw cB 1000 T), (aW, nw_ai cI 4 (va_up g (E i) ((g (E i)) - 1))), (hR, .inr (5, [.ref aC, .ref aL, .ref aS, .int (nI (nw_cnt (nw_sl E n1 ms) (i + 1)))])), (aC, nw_ar cF 50 (fun k => some (rz k))), (aL, nw_ai cI 50 (va_up rl (nw_cnt (nw_sl E n1 ms) i) (st (i + 1) - st i))), (aS, nw_ai cI 50 (va_up rd (nw_cnt (nw_sl E n1 ms) i) (E i))), (h1, .inr (7, [.ref a1, .ref b1, .int (nI n1)])), (a1, nw_ai cB 12000 C), (b1, nw_ai cI 1001 st)] ++ (nw_rb 50 cB 60 rz (va_up M1 (nw_cnt (nw_sl E n1 ms) i) (va_cpy C (M1 (nw_cnt (nw_sl E n1 ms) i)) (st i) 0 (st (i + 1) - st i))) ++ pl)) H := hP
          replace hD : va_D A ([(h, .inr (3, [.ref aT, .ref aW])), (aT, nw_aw cB 1000 T), (aW, nw_ai cI 4 (va_up g (E i) ((g (E i)) - 1))), (hR, .inr (5, [.ref aC, .ref aL, .ref aS, .int (nI (nw_cnt (nw_sl E n1 ms) (i + 1)))])), (aC, nw_ar cF 50 (fun k => some (rz k))), (aL, nw_ai cI 50 (va_up rl (nw_cnt (nw_sl E n1 ms) i) (st (i + 1) - st i))), (aS, nw_ai cI 50 (va_up rd (nw_cnt (nw_sl E n1 ms) i) (E i))), (h1, .inr (7, [.ref a1, .ref b1, .int (nI n1)])), (a1, nw_ai cB 12000 C), (b1, nw_ai cI 1001 st)] ++ (nw_rb 50 cB 60 rz (va_up M1 (nw_cnt (nw_sl E n1 ms) i) (va_cpy C (M1 (nw_cnt (nw_sl E n1 ms) i)) (st i) 0 (st (i + 1) - st i))) ++ pl)) := hD
          refine lv_iinc (v := nI (i + 1)) hx hb d_Near_moveTo_60 hl (k := 1) rfl (nI_add i 1) (by decide) rfl (fun ls hl => ?_)
          have hl : lv_has ls 5 [(3, .int (nI (i + 1))), (4, .int (nI (E i))), (2, .ref h1), (1, .ref hR), (0, .ref h)] := hl
          refine lv_goto hx hb d_Near_moveTo_63 (tgt := 10) (by decide) ?_
          exact ih (i + 1, va_up g (E i) (g (E i) - 1), va_up rl (nw_cnt (nw_sl E n1 ms) i) (st (i + 1) - st i), va_up rd (nw_cnt (nw_sl E n1 ms) i) (E i), va_up M1 (nw_cnt (nw_sl E n1 ms) i) (va_cpy C (M1 (nw_cnt (nw_sl E n1 ms) i)) (st i) 0 (st (i + 1) - st i))) (⟨by omega, fun d hd => by
            by_cases e : d = E i
            · rw [e, va_up_self, hgE, nw_lf_dec hi1 hgp]
            · rw [va_up_ne _ _ e, hg d hd]; exact (nw_lf_other (fun q => e q.symm)).symm, nw_kp_c hkp (fun j hj => (hm j (by omega)).2.2) rfl rfl⟩) (show n1 - (i + 1) < n1 - i by omega) _ _ _ (lv_sub hl [0, 2, 3, 4] rfl) hP hD hS
    · have hE4 : E i = 4 := (hE i).resolve_left hEi
      refine nw_ti (y := (-1)) (by rw [hTi, hE4]; rfl) ?_
      refine lv_istore hx hb d_Near_moveTo_24 hl (by decide) rfl (fun ls hl => ?_)
      replace hl : lv_has ls 5 [(4, .int (-1)), (3, .int (nI i)), (2, .ref h1), (1, .ref hR), (0, .ref h)] := hl
      refine lv_iload hx hb d_Near_moveTo_26 (lv_at hl 0 rfl) ?_
      refine lv_if_lt hx hb d_Near_moveTo_28 (tgt := 60) (by decide) (fun g2 => ?_) (fun g2 => ?_)
      · have hns : ¬ (nw_sl E n1 ms) i := fun h => hEi h.1
        have hcn := nw_cnt_neg (f := (nw_sl E n1 ms)) hns
        refine lv_iinc (v := nI (i + 1)) hx hb d_Near_moveTo_60 hl (k := 1) rfl (nI_add i 1) (by decide) rfl (fun ls hl => ?_)
        have hl : lv_has ls 5 [(3, .int (nI (i + 1))), (4, .int (-1)), (2, .ref h1), (1, .ref hR), (0, .ref h)] := hl
        refine lv_goto hx hb d_Near_moveTo_63 (tgt := 10) (by decide) ?_
        rw [← hcn] at hP hD
        replace hP : va_P (dC, dI) nw_cls ([(h, .inr (3, [.ref aT, .ref aW])), (aT, nw_aw cB 1000 T), (aW, nw_ai cI 4 g), (hR, .inr (5, [.ref aC, .ref aL, .ref aS, .int (nI (nw_cnt (nw_sl E n1 ms) (i + 1)))])), (aC, nw_ar cF 50 (fun k => some (rz k))), (aL, nw_ai cI 50 rl), (aS, nw_ai cI 50 rd), (h1, .inr (7, [.ref a1, .ref b1, .int (nI n1)])), (a1, nw_ai cB 12000 C), (b1, nw_ai cI 1001 st)] ++ (nw_rb 50 cB 60 rz M1 ++ pl)) H := hP
        replace hD : va_D A ([(h, .inr (3, [.ref aT, .ref aW])), (aT, nw_aw cB 1000 T), (aW, nw_ai cI 4 g), (hR, .inr (5, [.ref aC, .ref aL, .ref aS, .int (nI (nw_cnt (nw_sl E n1 ms) (i + 1)))])), (aC, nw_ar cF 50 (fun k => some (rz k))), (aL, nw_ai cI 50 rl), (aS, nw_ai cI 50 rd), (h1, .inr (7, [.ref a1, .ref b1, .int (nI n1)])), (a1, nw_ai cB 12000 C), (b1, nw_ai cI 1001 st)] ++ (nw_rb 50 cB 60 rz M1 ++ pl)) := hD
        exact ih (i + 1, g, rl, rd, M1) (⟨by omega, fun d hd => (hg d hd).trans (show nw_lf E n1 d (i + 1) = nw_lf E n1 d i from nw_lf_other (by omega)).symm, nw_kp_no hkp hns⟩) (show n1 - (i + 1) < n1 - i by omega) _ _ _ (lv_sub hl [0, 2, 3, 4] rfl) hP hD hS
      · exact absurd (by decide) g2
