set_option maxHeartbeats 4000000 in
set_option maxRecDepth 100000 in
theorem c_Mod_add_bad (l : Launch) (dC : Nat → ClassId) (dI : Nat → Nat → Nat) (sz : Nat) (hM ai aw ar al aL aD ac af ap an ax isz wn chn rn th : Nat) (hz : isz = 0) : Met l y_Mod_add w_Mod_add ({ frames := 1, cells := 0, slots := 0, locals := 21 }) (nw_Pw [.ref hM] (dC, dI) nw_cls [] [(hM, .inr (1, [.ref ai, .ref aw, .ref ar, .ref al, .ref aL, .ref aD, .ref ac, .ref af, .ref ap, .ref an, .ref ax, .int (nI isz), .int (nI wn), .int (nI chn), .int (nI rn), .int (nI th)]))] sz) (va_Qi (fun (r : Int32) (_ : Unit) => r = nI 0) (nw_B (dC, dI) nw_cls (va_A [(hM, .inr (1, [.ref ai, .ref aw, .ref ar, .ref al, .ref aL, .ref aD, .ref ac, .ref af, .ref ap, .ref an, .ref ax, .int (nI isz), .int (nI wn), .int (nI chn), .int (nI rn), .int (nI th)]))] sz) (fun _ : Unit => [(hM, .inr (1, [.ref ai, .ref aw, .ref ar, .ref al, .ref aL, .ref aD, .ref ac, .ref af, .ref ap, .ref an, .ref ax, .int (nI 0), .int (nI wn), .int (nI chn), .int (nI rn), .int (nI 1)]))])) (va_A [(hM, .inr (1, [.ref ai, .ref aw, .ref ar, .ref al, .ref aL, .ref aD, .ref ac, .ref af, .ref ap, .ref an, .ref ax, .int (nI isz), .int (nI wn), .int (nI chn), .int (nI rn), .int (nI th)]))] sz)) 0 0 (va_A [(hM, .inr (1, [.ref ai, .ref aw, .ref ar, .ref al, .ref aL, .ref aD, .ref ac, .ref af, .ref ap, .ref an, .ref ax, .int (nI isz), .int (nI wn), .int (nI chn), .int (nI rn), .int (nI th)]))] sz) := by
  refine Met.ofW (cc := b_Mod_add) (maxL := 4) (ret := (some .int)) (by decide) rfl ?_
  intro p e s m args below meth cd s₁ B hml hv0
  obtain ⟨rfl, hsz, hP, hK, hD0⟩ := hv0
  have hx := B.exec
  have hb := B.bytes
  have hr := B.returns
  have hts := atoms_spec (ws := w_Mod_add) B.pre
  have hown : s.vm.findClass R_Mod = some m.cls := findClass_of_methodNamed B.named
  have hlocks := B.notSynchronized
  subst hsz
  have hD := hD0.self (sz := s.heap.size)
  generalize hAe : va_A [(hM, .inr (1, [.ref ai, .ref aw, .ref ar, .ref al, .ref aL, .ref aD, .ref ac, .ref af, .ref ap, .ref an, .ref ax, .int (nI isz), .int (nI wn), .int (nI chn), .int (nI rn), .int (nI th)]))] s.heap.size = A at hD ⊢
  have hA : ∀ q : Nat, s.heap.size ≤ q → A q := fun q h => by rw [← hAe]; exact Or.inr h
  have hS : va_S A s.heap s.heap [] := va_S.rf
  have hl := lv_entry ([.ref hM]) (n := 4) (Nat.le_of_ble_eq_true rfl)
  rw [lg_entry_eq]
  generalize (lg_sl ([.ref hM]) ++ List.replicate (4 - (lg_sl ([.ref hM])).length) Slot.unset).toArray = ls at hl ⊢
  have hl : lv_has ls 4 [(0, .ref hM)] := hl
  refine lv_aload_n hx hb d_Mod_add_0 rfl (lv_at hl 0 rfl) ?_
  refine nw_calli (wc := [(hM, .inr (1, [.ref ai, .ref aw, .ref ar, .ref al, .ref aL, .ref aD, .ref ac, .ref af, .ref ap, .ref an, .ref ax, .int (nI isz), .int (nI wn), .int (nI chn), .int (nI rn), .int (nI th)]))]) (wr := []) hP hD hS hA [0] [] rfl rfl (by decide) (by decide) (va_runV (As := []) (rest := []) ⟨hx, hb, hml, hown, hts⟩ (c_Mod_take l dC dI _ hM ai aw ar al aL aD ac af ap an ax isz wn chn rn th) (cwV (C := R_Mod) 0 hts (nw_GV (nw_m 198 rfl) (nw_m 199 rfl) (nw_m 200 rfl) (nw_m 191 rfl) (nw_m 201 rfl)) rfl rfl rfl (by decide +kernel) ⟨Nat.le_of_ble_eq_true rfl, Nat.le_of_ble_eq_true rfl⟩) (nw_prewV (q0 := 0) (ci := 1) (q := (R_Mod, F_Mod, 16)) hK hP hD [0] [] (by decide) rfl rfl rfl rfl) rfl rfl hl.1 rfl (lv_room (Nat.le_of_ble_eq_true rfl)) d_Mod_add_1 ⟨Nat.le_of_ble_eq_true rfl, Nat.le_of_ble_eq_true rfl⟩) (fun r _ H locs hw hP hD hS => ?_)
  replace hP : va_P (dC, dI) nw_cls [(hM, .inr (1, [.ref ai, .ref aw, .ref ar, .ref al, .ref aL, .ref aD, .ref ac, .ref af, .ref ap, .ref an, .ref ax, .int (nI 0), .int (nI wn), .int (nI chn), .int (nI rn), .int (nI th)]))] H := hP
  replace hD : va_D A [(hM, .inr (1, [.ref ai, .ref aw, .ref ar, .ref al, .ref aL, .ref aD, .ref ac, .ref af, .ref ap, .ref an, .ref ax, .int (nI 0), .int (nI wn), .int (nI chn), .int (nI rn), .int (nI th)]))] := hD
  obtain rfl : r = nI isz := hw
  refine lv_istore_n hx hb d_Mod_add_4 rfl hl (by decide) rfl (fun ls hl => ?_)
  replace hl : lv_has ls 4 [(1, .int (nI isz)), (0, .ref hM)] := hl
  refine lv_aload_n hx hb d_Mod_add_5 rfl (lv_at hl 1 rfl) ?_
  refine lv_iload_n hx hb d_Mod_add_6 rfl (lv_at hl 0 rfl) ?_
  refine lv_if_ne hx hb d_Mod_add_7 (tgt := 14) (by decide) (fun q1 => ?_) (fun q1 => ?_)
  · rw [nw_eq0 (by omega)] at q1
    omega
  · rw [nw_eq0 (by omega)] at q1
    refine lv_iconst (v := nI 1) hx hb d_Mod_add_10 (by decide) ?_
    refine lv_goto hx hb d_Mod_add_11 (tgt := 15) (by decide) ?_
    refine va_put (D := (dC, dI)) (ci := 1) (v := .int (nI 1)) (ty := .int) (C := R_Mod) (T := F_Mod) (N := 16) hx hb hts hin_Mod t_Mod t_Mod_ok n_Mod hown hK hP hD hS 0 rfl rfl 15 (by decide) (hts _ (nw_mc 187 rfl)) (fun _ h9 => h9) rfl (by decide +kernel) rfl rfl (Nat.le_of_ble_eq_true rfl) d_Mod_add_15 (fun H locs hP hD hS => ?_)
    replace hP : va_P (dC, dI) nw_cls [(hM, .inr (1, [.ref ai, .ref aw, .ref ar, .ref al, .ref aL, .ref aD, .ref ac, .ref af, .ref ap, .ref an, .ref ax, .int (nI 0), .int (nI wn), .int (nI chn), .int (nI rn), .int (nI 1)]))] H := hP
    replace hD : va_D A [(hM, .inr (1, [.ref ai, .ref aw, .ref ar, .ref al, .ref aL, .ref aD, .ref ac, .ref af, .ref ap, .ref an, .ref ax, .int (nI 0), .int (nI wn), .int (nI chn), .int (nI rn), .int (nI 1)]))] := hD
    refine lv_iload_n hx hb d_Mod_add_18 rfl (lv_at hl 0 rfl) ?_
    refine lv_if_ne hx hb d_Mod_add_19 (tgt := 24) (by decide) (fun q2 => ?_) (fun q2 => ?_)
    · rw [nw_eq0 (by omega)] at q2
      omega
    · rw [nw_eq0 (by omega)] at q2
      refine lv_iconst (v := nI 0) hx hb d_Mod_add_22 (by decide) ?_
      exact W.iret (v := nI 0) hx hb hr (fun t ht hW => ⟨⟨_, (), rfl, rfl, by rw [ht]; exact hP, hD⟩, hS.F ht⟩) hS.2.2 d_Mod_add_23

set_option maxHeartbeats 4000000 in
set_option maxRecDepth 100000 in
theorem c_Mod_remove_bad (l : Launch) (dC : Nat → ClassId) (dI : Nat → Nat → Nat) (sz : Nat) (hM ai aw ar al aL aD ac af ap an ax isz wn chn rn th : Nat) (hz : isz = 0) : Met l y_Mod_remove w_Mod_remove ({ frames := 1, cells := 0, slots := 0, locals := 21 }) (nw_Pw [.ref hM] (dC, dI) nw_cls [] [(hM, .inr (1, [.ref ai, .ref aw, .ref ar, .ref al, .ref aL, .ref aD, .ref ac, .ref af, .ref ap, .ref an, .ref ax, .int (nI isz), .int (nI wn), .int (nI chn), .int (nI rn), .int (nI th)]))] sz) (va_Qi (fun (r : Int32) (_ : Unit) => r = nI 0) (nw_B (dC, dI) nw_cls (va_A [(hM, .inr (1, [.ref ai, .ref aw, .ref ar, .ref al, .ref aL, .ref aD, .ref ac, .ref af, .ref ap, .ref an, .ref ax, .int (nI isz), .int (nI wn), .int (nI chn), .int (nI rn), .int (nI th)]))] sz) (fun _ : Unit => [(hM, .inr (1, [.ref ai, .ref aw, .ref ar, .ref al, .ref aL, .ref aD, .ref ac, .ref af, .ref ap, .ref an, .ref ax, .int (nI 0), .int (nI wn), .int (nI chn), .int (nI rn), .int (nI 1)]))])) (va_A [(hM, .inr (1, [.ref ai, .ref aw, .ref ar, .ref al, .ref aL, .ref aD, .ref ac, .ref af, .ref ap, .ref an, .ref ax, .int (nI isz), .int (nI wn), .int (nI chn), .int (nI rn), .int (nI th)]))] sz)) 0 0 (va_A [(hM, .inr (1, [.ref ai, .ref aw, .ref ar, .ref al, .ref aL, .ref aD, .ref ac, .ref af, .ref ap, .ref an, .ref ax, .int (nI isz), .int (nI wn), .int (nI chn), .int (nI rn), .int (nI th)]))] sz) := by
  refine Met.ofW (cc := b_Mod_remove) (maxL := 4) (ret := (some .int)) (by decide) rfl ?_
  intro p e s m args below meth cd s₁ B hml hv0
  obtain ⟨rfl, hsz, hP, hK, hD0⟩ := hv0
  have hx := B.exec
  have hb := B.bytes
  have hr := B.returns
  have hts := atoms_spec (ws := w_Mod_remove) B.pre
  have hown : s.vm.findClass R_Mod = some m.cls := findClass_of_methodNamed B.named
  have hlocks := B.notSynchronized
  subst hsz
  have hD := hD0.self (sz := s.heap.size)
  generalize hAe : va_A [(hM, .inr (1, [.ref ai, .ref aw, .ref ar, .ref al, .ref aL, .ref aD, .ref ac, .ref af, .ref ap, .ref an, .ref ax, .int (nI isz), .int (nI wn), .int (nI chn), .int (nI rn), .int (nI th)]))] s.heap.size = A at hD ⊢
  have hA : ∀ q : Nat, s.heap.size ≤ q → A q := fun q h => by rw [← hAe]; exact Or.inr h
  have hS : va_S A s.heap s.heap [] := va_S.rf
  have hl := lv_entry ([.ref hM]) (n := 4) (Nat.le_of_ble_eq_true rfl)
  rw [lg_entry_eq]
  generalize (lg_sl ([.ref hM]) ++ List.replicate (4 - (lg_sl ([.ref hM])).length) Slot.unset).toArray = ls at hl ⊢
  have hl : lv_has ls 4 [(0, .ref hM)] := hl
  refine lv_aload_n hx hb d_Mod_remove_0 rfl (lv_at hl 0 rfl) ?_
  refine nw_calli (wc := [(hM, .inr (1, [.ref ai, .ref aw, .ref ar, .ref al, .ref aL, .ref aD, .ref ac, .ref af, .ref ap, .ref an, .ref ax, .int (nI isz), .int (nI wn), .int (nI chn), .int (nI rn), .int (nI th)]))]) (wr := []) hP hD hS hA [0] [] rfl rfl (by decide) (by decide) (va_runV (As := []) (rest := []) ⟨hx, hb, hml, hown, hts⟩ (c_Mod_take l dC dI _ hM ai aw ar al aL aD ac af ap an ax isz wn chn rn th) (cwV (C := R_Mod) 0 hts (nw_GV (nw_m 198 rfl) (nw_m 199 rfl) (nw_m 200 rfl) (nw_m 191 rfl) (nw_m 201 rfl)) rfl rfl rfl (by decide +kernel) ⟨Nat.le_of_ble_eq_true rfl, Nat.le_of_ble_eq_true rfl⟩) (nw_prewV (q0 := 0) (ci := 1) (q := (R_Mod, F_Mod, 16)) hK hP hD [0] [] (by decide) rfl rfl rfl rfl) rfl rfl hl.1 rfl (lv_room (Nat.le_of_ble_eq_true rfl)) d_Mod_remove_1 ⟨Nat.le_of_ble_eq_true rfl, Nat.le_of_ble_eq_true rfl⟩) (fun r _ H locs hw hP hD hS => ?_)
  replace hP : va_P (dC, dI) nw_cls [(hM, .inr (1, [.ref ai, .ref aw, .ref ar, .ref al, .ref aL, .ref aD, .ref ac, .ref af, .ref ap, .ref an, .ref ax, .int (nI 0), .int (nI wn), .int (nI chn), .int (nI rn), .int (nI th)]))] H := hP
  replace hD : va_D A [(hM, .inr (1, [.ref ai, .ref aw, .ref ar, .ref al, .ref aL, .ref aD, .ref ac, .ref af, .ref ap, .ref an, .ref ax, .int (nI 0), .int (nI wn), .int (nI chn), .int (nI rn), .int (nI th)]))] := hD
  obtain rfl : r = nI isz := hw
  refine lv_istore_n hx hb d_Mod_remove_4 rfl hl (by decide) rfl (fun ls hl => ?_)
  replace hl : lv_has ls 4 [(1, .int (nI isz)), (0, .ref hM)] := hl
  refine lv_aload_n hx hb d_Mod_remove_5 rfl (lv_at hl 1 rfl) ?_
  refine lv_iload_n hx hb d_Mod_remove_6 rfl (lv_at hl 0 rfl) ?_
  refine lv_if_ne hx hb d_Mod_remove_7 (tgt := 14) (by decide) (fun q1 => ?_) (fun q1 => ?_)
  · rw [nw_eq0 (by omega)] at q1
    omega
  · rw [nw_eq0 (by omega)] at q1
    refine lv_iconst (v := nI 1) hx hb d_Mod_remove_10 (by decide) ?_
    refine lv_goto hx hb d_Mod_remove_11 (tgt := 15) (by decide) ?_
    refine va_put (D := (dC, dI)) (ci := 1) (v := .int (nI 1)) (ty := .int) (C := R_Mod) (T := F_Mod) (N := 16) hx hb hts hin_Mod t_Mod t_Mod_ok n_Mod hown hK hP hD hS 0 rfl rfl 15 (by decide) (hts _ (nw_mc 187 rfl)) (fun _ h9 => h9) rfl (by decide +kernel) rfl rfl (Nat.le_of_ble_eq_true rfl) d_Mod_remove_15 (fun H locs hP hD hS => ?_)
    replace hP : va_P (dC, dI) nw_cls [(hM, .inr (1, [.ref ai, .ref aw, .ref ar, .ref al, .ref aL, .ref aD, .ref ac, .ref af, .ref ap, .ref an, .ref ax, .int (nI 0), .int (nI wn), .int (nI chn), .int (nI rn), .int (nI 1)]))] H := hP
    replace hD : va_D A [(hM, .inr (1, [.ref ai, .ref aw, .ref ar, .ref al, .ref aL, .ref aD, .ref ac, .ref af, .ref ap, .ref an, .ref ax, .int (nI 0), .int (nI wn), .int (nI chn), .int (nI rn), .int (nI 1)]))] := hD
    refine lv_iload_n hx hb d_Mod_remove_18 rfl (lv_at hl 0 rfl) ?_
    refine lv_if_ne hx hb d_Mod_remove_19 (tgt := 24) (by decide) (fun q2 => ?_) (fun q2 => ?_)
    · rw [nw_eq0 (by omega)] at q2
      omega
    · rw [nw_eq0 (by omega)] at q2
      refine lv_iconst (v := nI 0) hx hb d_Mod_remove_22 (by decide) ?_
      exact W.iret (v := nI 0) hx hb hr (fun t ht hW => ⟨⟨_, (), rfl, rfl, by rw [ht]; exact hP, hD⟩, hS.F ht⟩) hS.2.2 d_Mod_remove_23

set_option maxHeartbeats 4000000 in
set_option maxRecDepth 100000 in
theorem c_Mod_add_old (l : Launch) (dC : Nat → ClassId) (dI : Nat → Nat → Nat) (sz : Nat) (cB cI : ClassId) (hM ai aw ar al aL aD ac af ap an ax isz wn chn rn th : Nat) (I X Ln : Nat → Nat) (at0 : Nat) (hat : at0 = nw_cnt (fun i => nw_cm (fun k => X (i * 60 + k)) (Ln i) I isz < 0) wn) (h1 : 1 ≤ isz) (hw : wn ≤ 1000) (hn : isz ≤ 60) (hL : ∀ i, i < wn → Ln i ≤ 60) (hX : ∀ j, X j < 128) (hI0 : ∀ j, I j < 128) (ho : at0 < wn) (hc : nw_cm (fun k => X (at0 * 60 + k)) (Ln at0) I isz = 0) : Met l y_Mod_add w_Mod_add ({ frames := 3, cells := 0, slots := 0, locals := 68 }) (nw_Pw [.ref hM] (dC, dI) nw_cls [(cB, .byte), (cI, .int)] [(hM, .inr (1, [.ref ai, .ref aw, .ref ar, .ref al, .ref aL, .ref aD, .ref ac, .ref af, .ref ap, .ref an, .ref ax, .int (nI isz), .int (nI wn), .int (nI chn), .int (nI rn), .int (nI th)])), (ai, nw_ai cB 60 I), (aw, nw_ai cB 60000 X), (al, nw_ai cI 1000 Ln)] sz) (va_Qi (fun (r : Int32) (_ : Unit) => r = nI wn) (nw_B (dC, dI) nw_cls (va_A [(hM, .inr (1, [.ref ai, .ref aw, .ref ar, .ref al, .ref aL, .ref aD, .ref ac, .ref af, .ref ap, .ref an, .ref ax, .int (nI isz), .int (nI wn), .int (nI chn), .int (nI rn), .int (nI th)])), (ai, nw_ai cB 60 I), (aw, nw_ai cB 60000 X), (al, nw_ai cI 1000 Ln)] sz) (fun _ : Unit => [(hM, .inr (1, [.ref ai, .ref aw, .ref ar, .ref al, .ref aL, .ref aD, .ref ac, .ref af, .ref ap, .ref an, .ref ax, .int (nI 0), .int (nI wn), .int (nI chn), .int (nI rn), .int (nI 0)])), (ai, nw_ai cB 60 I), (aw, nw_ai cB 60000 X), (al, nw_ai cI 1000 Ln)])) (va_A [(hM, .inr (1, [.ref ai, .ref aw, .ref ar, .ref al, .ref aL, .ref aD, .ref ac, .ref af, .ref ap, .ref an, .ref ax, .int (nI isz), .int (nI wn), .int (nI chn), .int (nI rn), .int (nI th)])), (ai, nw_ai cB 60 I), (aw, nw_ai cB 60000 X), (al, nw_ai cI 1000 Ln)] sz)) 0 0 (va_A [(hM, .inr (1, [.ref ai, .ref aw, .ref ar, .ref al, .ref aL, .ref aD, .ref ac, .ref af, .ref ap, .ref an, .ref ax, .int (nI isz), .int (nI wn), .int (nI chn), .int (nI rn), .int (nI th)])), (ai, nw_ai cB 60 I), (aw, nw_ai cB 60000 X), (al, nw_ai cI 1000 Ln)] sz) := by
  refine Met.ofW (cc := b_Mod_add) (maxL := 4) (ret := (some .int)) (by decide) rfl ?_
  intro p e s m args below meth cd s₁ B hml hv0
  obtain ⟨rfl, hsz, hP, hK, hD0⟩ := hv0
  have hx := B.exec
  have hb := B.bytes
  have hr := B.returns
  have hts := atoms_spec (ws := w_Mod_add) B.pre
  have hown : s.vm.findClass R_Mod = some m.cls := findClass_of_methodNamed B.named
  have hlocks := B.notSynchronized
  subst hsz
  have hD := hD0.self (sz := s.heap.size)
  generalize hAe : va_A [(hM, .inr (1, [.ref ai, .ref aw, .ref ar, .ref al, .ref aL, .ref aD, .ref ac, .ref af, .ref ap, .ref an, .ref ax, .int (nI isz), .int (nI wn), .int (nI chn), .int (nI rn), .int (nI th)])), (ai, nw_ai cB 60 I), (aw, nw_ai cB 60000 X), (al, nw_ai cI 1000 Ln)] s.heap.size = A at hD ⊢
  have hA : ∀ q : Nat, s.heap.size ≤ q → A q := fun q h => by rw [← hAe]; exact Or.inr h
  have hS : va_S A s.heap s.heap [] := va_S.rf
  have hl := lv_entry ([.ref hM]) (n := 4) (Nat.le_of_ble_eq_true rfl)
  rw [lg_entry_eq]
  generalize (lg_sl ([.ref hM]) ++ List.replicate (4 - (lg_sl ([.ref hM])).length) Slot.unset).toArray = ls at hl ⊢
  have hl : lv_has ls 4 [(0, .ref hM)] := hl
  have hat1 := nw_cnt_le (fun i => nw_cm (fun k => X (i * 60 + k)) (Ln i) I isz < 0) wn
  refine lv_aload_n hx hb d_Mod_add_0 rfl (lv_at hl 0 rfl) ?_
  refine nw_calli (wc := [(hM, .inr (1, [.ref ai, .ref aw, .ref ar, .ref al, .ref aL, .ref aD, .ref ac, .ref af, .ref ap, .ref an, .ref ax, .int (nI isz), .int (nI wn), .int (nI chn), .int (nI rn), .int (nI th)]))]) (wr := [(ai, nw_ai cB 60 I), (aw, nw_ai cB 60000 X), (al, nw_ai cI 1000 Ln)]) hP hD hS hA [0] [1, 2, 3] rfl rfl (by decide) (by decide) (va_runV (As := []) (rest := []) ⟨hx, hb, hml, hown, hts⟩ (c_Mod_take l dC dI _ hM ai aw ar al aL aD ac af ap an ax isz wn chn rn th) (cwV (C := R_Mod) 0 hts (nw_GV (nw_m 198 rfl) (nw_m 199 rfl) (nw_m 200 rfl) (nw_m 191 rfl) (nw_m 201 rfl)) rfl rfl rfl (by decide +kernel) ⟨Nat.le_of_ble_eq_true rfl, Nat.le_of_ble_eq_true rfl⟩) (nw_prewV (q0 := 0) (ci := 1) (q := (R_Mod, F_Mod, 16)) hK hP hD [0] [] (by decide) rfl rfl rfl rfl) rfl rfl hl.1 rfl (lv_room (Nat.le_of_ble_eq_true rfl)) d_Mod_add_1 ⟨Nat.le_of_ble_eq_true rfl, Nat.le_of_ble_eq_true rfl⟩) (fun r _ H locs hw hP hD hS => ?_)
  replace hP : va_P (dC, dI) nw_cls [(ai, nw_ai cB 60 I), (aw, nw_ai cB 60000 X), (al, nw_ai cI 1000 Ln), (hM, .inr (1, [.ref ai, .ref aw, .ref ar, .ref al, .ref aL, .ref aD, .ref ac, .ref af, .ref ap, .ref an, .ref ax, .int (nI 0), .int (nI wn), .int (nI chn), .int (nI rn), .int (nI th)]))] H := hP
  replace hD : va_D A [(ai, nw_ai cB 60 I), (aw, nw_ai cB 60000 X), (al, nw_ai cI 1000 Ln), (hM, .inr (1, [.ref ai, .ref aw, .ref ar, .ref al, .ref aL, .ref aD, .ref ac, .ref af, .ref ap, .ref an, .ref ax, .int (nI 0), .int (nI wn), .int (nI chn), .int (nI rn), .int (nI th)]))] := hD
  obtain rfl : r = nI isz := hw
  refine lv_istore_n hx hb d_Mod_add_4 rfl hl (by decide) rfl (fun ls hl => ?_)
  replace hl : lv_has ls 4 [(1, .int (nI isz)), (0, .ref hM)] := hl
  refine lv_aload_n hx hb d_Mod_add_5 rfl (lv_at hl 1 rfl) ?_
  refine lv_iload_n hx hb d_Mod_add_6 rfl (lv_at hl 0 rfl) ?_
  refine lv_if_ne hx hb d_Mod_add_7 (tgt := 14) (by decide) (fun q1 => ?_) (fun q1 => ?_)
  · rw [nw_eq0 (by omega)] at q1
    refine lv_iconst (v := nI 0) hx hb d_Mod_add_14 (by decide) ?_
    refine va_put (D := (dC, dI)) (ci := 1) (v := .int (nI 0)) (ty := .int) (C := R_Mod) (T := F_Mod) (N := 16) hx hb hts hin_Mod t_Mod t_Mod_ok n_Mod hown hK hP hD hS 3 rfl rfl 15 (by decide) (hts _ (nw_mc 187 rfl)) (fun _ h9 => h9) rfl (by decide +kernel) rfl rfl (Nat.le_of_ble_eq_true rfl) d_Mod_add_15 (fun H locs hP hD hS => ?_)
    replace hP : va_P (dC, dI) nw_cls [(ai, nw_ai cB 60 I), (aw, nw_ai cB 60000 X), (al, nw_ai cI 1000 Ln), (hM, .inr (1, [.ref ai, .ref aw, .ref ar, .ref al, .ref aL, .ref aD, .ref ac, .ref af, .ref ap, .ref an, .ref ax, .int (nI 0), .int (nI wn), .int (nI chn), .int (nI rn), .int (nI 0)]))] H := hP
    replace hD : va_D A [(ai, nw_ai cB 60 I), (aw, nw_ai cB 60000 X), (al, nw_ai cI 1000 Ln), (hM, .inr (1, [.ref ai, .ref aw, .ref ar, .ref al, .ref aL, .ref aD, .ref ac, .ref af, .ref ap, .ref an, .ref ax, .int (nI 0), .int (nI wn), .int (nI chn), .int (nI rn), .int (nI 0)]))] := hD
    refine lv_iload_n hx hb d_Mod_add_18 rfl (lv_at hl 0 rfl) ?_
    refine lv_if_ne hx hb d_Mod_add_19 (tgt := 24) (by decide) (fun q2 => ?_) (fun q2 => ?_)
    · rw [nw_eq0 (by omega)] at q2
      refine lv_aload_n hx hb d_Mod_add_24 rfl (lv_at hl 1 rfl) ?_
      refine lv_iload_n hx hb d_Mod_add_25 rfl (lv_at hl 0 rfl) ?_
      refine vp_callSi (va_Run.run (va_runV (As := [.int (nI isz)]) (rest := []) ⟨hx, hb, hml, hown, hts⟩ (c_Mod_standing l dC dI cB cI hM ai aw ar al aL aD ac af ap an ax 0 wn chn rn 0 I X Ln isz (by omega) (by omega) hL hX hI0) (cwV (C := R_Mod) 1 hts (nw_GV (nw_m 202 rfl) (nw_m 203 rfl) (nw_m 204 rfl) (nw_m 191 rfl) (nw_m 205 rfl)) rfl rfl rfl (by decide +kernel) ⟨Nat.le_of_ble_eq_true rfl, Nat.le_of_ble_eq_true rfl⟩) (nw_preV (q0 := 3) (ci := 1) (q := (R_Mod, F_Mod, 16)) hK hP [3, 0, 1, 2] [0, 1] rfl rfl rfl rfl) rfl rfl hl.1 rfl (lv_room (Nat.le_of_ble_eq_true rfl)) d_Mod_add_26 ⟨Nat.le_of_ble_eq_true rfl, Nat.le_of_ble_eq_true rfl⟩)) (fun r her => ?_)
      subst her
      refine nw_ti (y := nI at0) (congrArg nI hat.symm) ?_
      refine lv_istore_n hx hb d_Mod_add_29 rfl hl (by decide) rfl (fun ls hl => ?_)
      replace hl : lv_has ls 4 [(2, .int (nI at0)), (1, .int (nI isz)), (0, .ref hM)] := hl
      refine lv_iload_n hx hb d_Mod_add_30 rfl (lv_at hl 0 rfl) ?_
      refine lv_aload_n hx hb d_Mod_add_31 rfl (lv_at hl 2 rfl) ?_
      refine va_get (D := (dC, dI)) (ci := 1) (v := .int (nI wn)) (C := R_Mod) (T := F_Mod) (N := 16) hx hb hts hin_Mod hown hK hP 3 rfl rfl 12 (by decide) (hts _ (nw_mc 193 rfl)) (fun _ h9 => h9) rfl d_Mod_add_32 ?_
      refine lv_icmp_ge hx hb d_Mod_add_35 (tgt := 52) (by decide) (fun q3 => ?_) (fun q3 => ?_)
      · rw [nI_leI (by omega) (by omega)] at q3
        omega
      · rw [nI_leI (by omega) (by omega)] at q3
        refine lv_aload_n hx hb d_Mod_add_38 rfl (lv_at hl 2 rfl) ?_
        refine lv_iload_n hx hb d_Mod_add_39 rfl (lv_at hl 0 rfl) ?_
        refine lv_iload_n hx hb d_Mod_add_40 rfl (lv_at hl 1 rfl) ?_
        refine vp_callSi (va_Run.run (va_runV (As := [.int (nI at0), .int (nI isz)]) (rest := []) ⟨hx, hb, hml, hown, hts⟩ (c_Mod_order l dC dI cB cI hM ai aw ar al aL aD ac af ap an ax 0 wn chn rn 0 I X Ln at0 isz (by omega) (by omega) (hL _ (by omega)) hX hI0) (cwV (C := R_Mod) 2 hts (nw_GV (nw_m 194 rfl) (nw_m 195 rfl) (nw_m 196 rfl) (nw_m 191 rfl) (nw_m 197 rfl)) rfl rfl rfl (by decide +kernel) ⟨Nat.le_of_ble_eq_true rfl, Nat.le_of_ble_eq_true rfl⟩) (nw_preV (q0 := 3) (ci := 1) (q := (R_Mod, F_Mod, 16)) hK hP [3, 0, 1, 2] [0, 1] rfl rfl rfl rfl) rfl rfl hl.1 rfl (lv_room (Nat.le_of_ble_eq_true rfl)) d_Mod_add_41 ⟨Nat.le_of_ble_eq_true rfl, Nat.le_of_ble_eq_true rfl⟩)) (fun r her => ?_)
        subst her
        refine lv_if_ne hx hb d_Mod_add_44 (tgt := 52) (by decide) (fun q4 => ?_) (fun q4 => ?_)
        · exact absurd hc q4
        · refine lv_aload_n hx hb d_Mod_add_47 rfl (lv_at hl 2 rfl) ?_
          refine va_get (D := (dC, dI)) (ci := 1) (v := .int (nI wn)) (C := R_Mod) (T := F_Mod) (N := 16) hx hb hts hin_Mod hown hK hP 3 rfl rfl 12 (by decide) (hts _ (nw_mc 193 rfl)) (fun _ h9 => h9) rfl d_Mod_add_48 ?_
          have hP := hP.sub (ws' := [(hM, .inr (1, [.ref ai, .ref aw, .ref ar, .ref al, .ref aL, .ref aD, .ref ac, .ref af, .ref ap, .ref an, .ref ax, .int (nI 0), .int (nI wn), .int (nI chn), .int (nI rn), .int (nI 0)])), (ai, nw_ai cB 60 I), (aw, nw_ai cB 60000 X), (al, nw_ai cI 1000 Ln)]) [3, 0, 1, 2] rfl
          have hD := hD.sub (ws' := [(hM, .inr (1, [.ref ai, .ref aw, .ref ar, .ref al, .ref aL, .ref aD, .ref ac, .ref af, .ref ap, .ref an, .ref ax, .int (nI 0), .int (nI wn), .int (nI chn), .int (nI rn), .int (nI 0)])), (ai, nw_ai cB 60 I), (aw, nw_ai cB 60000 X), (al, nw_ai cI 1000 Ln)]) [3, 0, 1, 2] (by decide) rfl
          exact W.iret (v := nI wn) hx hb hr (fun t ht hW => ⟨⟨_, (), rfl, rfl, by rw [ht]; exact hP, hD⟩, hS.F ht⟩) hS.2.2 d_Mod_add_51
    · rw [nw_eq0 (by omega)] at q2
      omega
  · rw [nw_eq0 (by omega)] at q1
    omega

set_option maxHeartbeats 4000000 in
set_option maxRecDepth 100000 in
theorem c_Mod_add_new (l : Launch) (dC : Nat → ClassId) (dI : Nat → Nat → Nat) (sz : Nat) (cB cI : ClassId) (hM ai aw ar al aL aD ac af ap an ax isz wn chn rn th : Nat) (I X Ln : Nat → Nat) (at0 : Nat) (hat : at0 = nw_cnt (fun i => nw_cm (fun k => X (i * 60 + k)) (Ln i) I isz < 0) wn) (h1 : 1 ≤ isz) (hw : wn ≤ 1000) (hn : isz ≤ 60) (hL : ∀ i, i < wn → Ln i ≤ 60) (hX : ∀ j, X j < 128) (hI0 : ∀ j, I j < 128) (ho : ¬ (at0 < wn ∧ nw_cm (fun k => X (at0 * 60 + k)) (Ln at0) I isz = 0)) (hw2 : wn < 1000) (hch : chn + isz ≤ 12000) : Met l y_Mod_add w_Mod_add ({ frames := 3, cells := 0, slots := 0, locals := 68 }) (nw_Pw [.ref hM] (dC, dI) nw_cls [(cB, .byte), (cI, .int)] [(hM, .inr (1, [.ref ai, .ref aw, .ref ar, .ref al, .ref aL, .ref aD, .ref ac, .ref af, .ref ap, .ref an, .ref ax, .int (nI isz), .int (nI wn), .int (nI chn), .int (nI rn), .int (nI th)])), (ai, nw_ai cB 60 I), (aw, nw_ai cB 60000 X), (al, nw_ai cI 1000 Ln)] sz) (va_Qi (fun (r : Int32) (u : (Nat → Nat) × (Nat → Nat)) => r = nI (wn + 1) ∧ (∀ v, v < at0 → u.2 v = Ln v ∧ ∀ k, k < Ln v → u.1 (v * 60 + k) = X (v * 60 + k)) ∧ (u.2 at0 = isz ∧ ∀ k, k < isz → u.1 (at0 * 60 + k) = I k) ∧ (∀ v, at0 < v → v ≤ wn → u.2 v = Ln (v - 1) ∧ ∀ k, k < Ln (v - 1) → u.1 (v * 60 + k) = X ((v - 1) * 60 + k)) ∧ ∀ j, u.1 j < 128) (nw_B (dC, dI) nw_cls (va_A [(hM, .inr (1, [.ref ai, .ref aw, .ref ar, .ref al, .ref aL, .ref aD, .ref ac, .ref af, .ref ap, .ref an, .ref ax, .int (nI isz), .int (nI wn), .int (nI chn), .int (nI rn), .int (nI th)])), (ai, nw_ai cB 60 I), (aw, nw_ai cB 60000 X), (al, nw_ai cI 1000 Ln)] sz) (fun u => [(hM, .inr (1, [.ref ai, .ref aw, .ref ar, .ref al, .ref aL, .ref aD, .ref ac, .ref af, .ref ap, .ref an, .ref ax, .int (nI 0), .int (nI (wn + 1)), .int (nI (chn + isz)), .int (nI rn), .int (nI 0)])), (ai, nw_ai cB 60 I), (aw, nw_ai cB 60000 u.1), (al, nw_ai cI 1000 u.2)])) (va_A [(hM, .inr (1, [.ref ai, .ref aw, .ref ar, .ref al, .ref aL, .ref aD, .ref ac, .ref af, .ref ap, .ref an, .ref ax, .int (nI isz), .int (nI wn), .int (nI chn), .int (nI rn), .int (nI th)])), (ai, nw_ai cB 60 I), (aw, nw_ai cB 60000 X), (al, nw_ai cI 1000 Ln)] sz)) 0 0 (va_A [(hM, .inr (1, [.ref ai, .ref aw, .ref ar, .ref al, .ref aL, .ref aD, .ref ac, .ref af, .ref ap, .ref an, .ref ax, .int (nI isz), .int (nI wn), .int (nI chn), .int (nI rn), .int (nI th)])), (ai, nw_ai cB 60 I), (aw, nw_ai cB 60000 X), (al, nw_ai cI 1000 Ln)] sz) := by
  refine Met.ofW (cc := b_Mod_add) (maxL := 4) (ret := (some .int)) (by decide) rfl ?_
  intro p e s m args below meth cd s₁ B hml hv0
  obtain ⟨rfl, hsz, hP, hK, hD0⟩ := hv0
  have hx := B.exec
  have hb := B.bytes
  have hr := B.returns
  have hts := atoms_spec (ws := w_Mod_add) B.pre
  have hown : s.vm.findClass R_Mod = some m.cls := findClass_of_methodNamed B.named
  have hlocks := B.notSynchronized
  subst hsz
  have hD := hD0.self (sz := s.heap.size)
  generalize hAe : va_A [(hM, .inr (1, [.ref ai, .ref aw, .ref ar, .ref al, .ref aL, .ref aD, .ref ac, .ref af, .ref ap, .ref an, .ref ax, .int (nI isz), .int (nI wn), .int (nI chn), .int (nI rn), .int (nI th)])), (ai, nw_ai cB 60 I), (aw, nw_ai cB 60000 X), (al, nw_ai cI 1000 Ln)] s.heap.size = A at hD ⊢
  have hA : ∀ q : Nat, s.heap.size ≤ q → A q := fun q h => by rw [← hAe]; exact Or.inr h
  have hS : va_S A s.heap s.heap [] := va_S.rf
  have hl := lv_entry ([.ref hM]) (n := 4) (Nat.le_of_ble_eq_true rfl)
  rw [lg_entry_eq]
  generalize (lg_sl ([.ref hM]) ++ List.replicate (4 - (lg_sl ([.ref hM])).length) Slot.unset).toArray = ls at hl ⊢
  have hl : lv_has ls 4 [(0, .ref hM)] := hl
  have hat1 := nw_cnt_le (fun i => nw_cm (fun k => X (i * 60 + k)) (Ln i) I isz < 0) wn
  refine lv_aload_n hx hb d_Mod_add_0 rfl (lv_at hl 0 rfl) ?_
  refine nw_calli (wc := [(hM, .inr (1, [.ref ai, .ref aw, .ref ar, .ref al, .ref aL, .ref aD, .ref ac, .ref af, .ref ap, .ref an, .ref ax, .int (nI isz), .int (nI wn), .int (nI chn), .int (nI rn), .int (nI th)]))]) (wr := [(ai, nw_ai cB 60 I), (aw, nw_ai cB 60000 X), (al, nw_ai cI 1000 Ln)]) hP hD hS hA [0] [1, 2, 3] rfl rfl (by decide) (by decide) (va_runV (As := []) (rest := []) ⟨hx, hb, hml, hown, hts⟩ (c_Mod_take l dC dI _ hM ai aw ar al aL aD ac af ap an ax isz wn chn rn th) (cwV (C := R_Mod) 0 hts (nw_GV (nw_m 198 rfl) (nw_m 199 rfl) (nw_m 200 rfl) (nw_m 191 rfl) (nw_m 201 rfl)) rfl rfl rfl (by decide +kernel) ⟨Nat.le_of_ble_eq_true rfl, Nat.le_of_ble_eq_true rfl⟩) (nw_prewV (q0 := 0) (ci := 1) (q := (R_Mod, F_Mod, 16)) hK hP hD [0] [] (by decide) rfl rfl rfl rfl) rfl rfl hl.1 rfl (lv_room (Nat.le_of_ble_eq_true rfl)) d_Mod_add_1 ⟨Nat.le_of_ble_eq_true rfl, Nat.le_of_ble_eq_true rfl⟩) (fun r _ H locs hw hP hD hS => ?_)
  replace hP : va_P (dC, dI) nw_cls [(ai, nw_ai cB 60 I), (aw, nw_ai cB 60000 X), (al, nw_ai cI 1000 Ln), (hM, .inr (1, [.ref ai, .ref aw, .ref ar, .ref al, .ref aL, .ref aD, .ref ac, .ref af, .ref ap, .ref an, .ref ax, .int (nI 0), .int (nI wn), .int (nI chn), .int (nI rn), .int (nI th)]))] H := hP
  replace hD : va_D A [(ai, nw_ai cB 60 I), (aw, nw_ai cB 60000 X), (al, nw_ai cI 1000 Ln), (hM, .inr (1, [.ref ai, .ref aw, .ref ar, .ref al, .ref aL, .ref aD, .ref ac, .ref af, .ref ap, .ref an, .ref ax, .int (nI 0), .int (nI wn), .int (nI chn), .int (nI rn), .int (nI th)]))] := hD
  obtain rfl : r = nI isz := hw
  refine lv_istore_n hx hb d_Mod_add_4 rfl hl (by decide) rfl (fun ls hl => ?_)
  replace hl : lv_has ls 4 [(1, .int (nI isz)), (0, .ref hM)] := hl
  refine lv_aload_n hx hb d_Mod_add_5 rfl (lv_at hl 1 rfl) ?_
  refine lv_iload_n hx hb d_Mod_add_6 rfl (lv_at hl 0 rfl) ?_
  refine lv_if_ne hx hb d_Mod_add_7 (tgt := 14) (by decide) (fun q1 => ?_) (fun q1 => ?_)
  · rw [nw_eq0 (by omega)] at q1
    refine lv_iconst (v := nI 0) hx hb d_Mod_add_14 (by decide) ?_
    refine va_put (D := (dC, dI)) (ci := 1) (v := .int (nI 0)) (ty := .int) (C := R_Mod) (T := F_Mod) (N := 16) hx hb hts hin_Mod t_Mod t_Mod_ok n_Mod hown hK hP hD hS 3 rfl rfl 15 (by decide) (hts _ (nw_mc 187 rfl)) (fun _ h9 => h9) rfl (by decide +kernel) rfl rfl (Nat.le_of_ble_eq_true rfl) d_Mod_add_15 (fun H locs hP hD hS => ?_)
    replace hP : va_P (dC, dI) nw_cls [(ai, nw_ai cB 60 I), (aw, nw_ai cB 60000 X), (al, nw_ai cI 1000 Ln), (hM, .inr (1, [.ref ai, .ref aw, .ref ar, .ref al, .ref aL, .ref aD, .ref ac, .ref af, .ref ap, .ref an, .ref ax, .int (nI 0), .int (nI wn), .int (nI chn), .int (nI rn), .int (nI 0)]))] H := hP
    replace hD : va_D A [(ai, nw_ai cB 60 I), (aw, nw_ai cB 60000 X), (al, nw_ai cI 1000 Ln), (hM, .inr (1, [.ref ai, .ref aw, .ref ar, .ref al, .ref aL, .ref aD, .ref ac, .ref af, .ref ap, .ref an, .ref ax, .int (nI 0), .int (nI wn), .int (nI chn), .int (nI rn), .int (nI 0)]))] := hD
    refine lv_iload_n hx hb d_Mod_add_18 rfl (lv_at hl 0 rfl) ?_
    refine lv_if_ne hx hb d_Mod_add_19 (tgt := 24) (by decide) (fun q2 => ?_) (fun q2 => ?_)
    · rw [nw_eq0 (by omega)] at q2
      refine lv_aload_n hx hb d_Mod_add_24 rfl (lv_at hl 1 rfl) ?_
      refine lv_iload_n hx hb d_Mod_add_25 rfl (lv_at hl 0 rfl) ?_
      refine vp_callSi (va_Run.run (va_runV (As := [.int (nI isz)]) (rest := []) ⟨hx, hb, hml, hown, hts⟩ (c_Mod_standing l dC dI cB cI hM ai aw ar al aL aD ac af ap an ax 0 wn chn rn 0 I X Ln isz (by omega) (by omega) hL hX hI0) (cwV (C := R_Mod) 1 hts (nw_GV (nw_m 202 rfl) (nw_m 203 rfl) (nw_m 204 rfl) (nw_m 191 rfl) (nw_m 205 rfl)) rfl rfl rfl (by decide +kernel) ⟨Nat.le_of_ble_eq_true rfl, Nat.le_of_ble_eq_true rfl⟩) (nw_preV (q0 := 3) (ci := 1) (q := (R_Mod, F_Mod, 16)) hK hP [3, 0, 1, 2] [0, 1] rfl rfl rfl rfl) rfl rfl hl.1 rfl (lv_room (Nat.le_of_ble_eq_true rfl)) d_Mod_add_26 ⟨Nat.le_of_ble_eq_true rfl, Nat.le_of_ble_eq_true rfl⟩)) (fun r her => ?_)
      subst her
      refine nw_ti (y := nI at0) (congrArg nI hat.symm) ?_
      refine lv_istore_n hx hb d_Mod_add_29 rfl hl (by decide) rfl (fun ls hl => ?_)
      replace hl : lv_has ls 4 [(2, .int (nI at0)), (1, .int (nI isz)), (0, .ref hM)] := hl
      refine lv_iload_n hx hb d_Mod_add_30 rfl (lv_at hl 0 rfl) ?_
      refine lv_aload_n hx hb d_Mod_add_31 rfl (lv_at hl 2 rfl) ?_
      refine va_get (D := (dC, dI)) (ci := 1) (v := .int (nI wn)) (C := R_Mod) (T := F_Mod) (N := 16) hx hb hts hin_Mod hown hK hP 3 rfl rfl 12 (by decide) (hts _ (nw_mc 193 rfl)) (fun _ h9 => h9) rfl d_Mod_add_32 ?_
      refine lv_icmp_ge hx hb d_Mod_add_35 (tgt := 52) (by decide) (fun q3 => ?_) (fun q3 => ?_)
      · rw [nI_leI (by omega) (by omega)] at q3
        refine lv_aload_n hx hb d_Mod_add_52 rfl (lv_at hl 2 rfl) ?_
        refine va_get (D := (dC, dI)) (ci := 1) (v := .int (nI wn)) (C := R_Mod) (T := F_Mod) (N := 16) hx hb hts hin_Mod hown hK hP 3 rfl rfl 12 (by decide) (hts _ (nw_mc 193 rfl)) (fun _ h9 => h9) rfl d_Mod_add_53 ?_
        refine lv_sipush (v := nI 1000) hx hb d_Mod_add_56 (by decide) ?_
        refine lv_icmp_eq hx hb d_Mod_add_59 (tgt := 74) (by decide) (fun q5 => ?_) (fun q5 => ?_)
        · rw [nI_eq (by omega) (by omega)] at q5
          omega
        · rw [nI_eq (by omega) (by omega)] at q5
          refine lv_aload_n hx hb d_Mod_add_62 rfl (lv_at hl 2 rfl) ?_
          refine va_get (D := (dC, dI)) (ci := 1) (v := .int (nI chn)) (C := R_Mod) (T := F_Mod) (N := 16) hx hb hts hin_Mod hown hK hP 3 rfl rfl 13 (by decide) (hts _ (nw_mc 206 rfl)) (fun _ h9 => h9) rfl d_Mod_add_63 ?_
          refine lv_iload_n hx hb d_Mod_add_66 rfl (lv_at hl 1 rfl) ?_
          refine lv_iadd hx hb d_Mod_add_67 ?_
          refine nw_ti (nI_add chn isz) ?_
          refine lv_sipush (v := nI 12000) hx hb d_Mod_add_68 (by decide) ?_
          refine lv_icmp_le hx hb d_Mod_add_71 (tgt := 81) (by decide) (fun q6 => ?_) (fun q6 => ?_)
          · rw [nI_leI (by omega) (by omega)] at q6
            refine lv_aload_n hx hb d_Mod_add_81 rfl (lv_at hl 2 rfl) ?_
            refine va_get (D := (dC, dI)) (ci := 1) (v := .int (nI wn)) (C := R_Mod) (T := F_Mod) (N := 16) hx hb hts hin_Mod hown hK hP 3 rfl rfl 12 (by decide) (hts _ (nw_mc 193 rfl)) (fun _ h9 => h9) rfl d_Mod_add_82 ?_
            refine lv_istore_n hx hb d_Mod_add_85 rfl hl (by decide) rfl (fun ls hl => ?_)
            replace hl : lv_has ls 4 [(3, .int (nI wn)), (2, .int (nI at0)), (1, .int (nI isz)), (0, .ref hM)] := hl
            have hP := hP.sub (ws' := [(hM, .inr (1, [.ref ai, .ref aw, .ref ar, .ref al, .ref aL, .ref aD, .ref ac, .ref af, .ref ap, .ref an, .ref ax, .int (nI 0), .int (nI wn), .int (nI chn), .int (nI rn), .int (nI 0)])), (ai, nw_ai cB 60 I), (aw, nw_ai cB 60000 X), (al, nw_ai cI 1000 Ln)]) [3, 0, 1, 2] rfl
            have hD := hD.sub (ws' := [(hM, .inr (1, [.ref ai, .ref aw, .ref ar, .ref al, .ref aL, .ref aD, .ref ac, .ref af, .ref ap, .ref an, .ref ax, .int (nI 0), .int (nI wn), .int (nI chn), .int (nI rn), .int (nI 0)])), (ai, nw_ai cB 60 I), (aw, nw_ai cB 60000 X), (al, nw_ai cI 1000 Ln)]) [3, 0, 1, 2] (by decide) rfl
            refine nw_loopW (σ := Nat × (Nat → Nat) × (Nat → Nat)) (fun x => match x with | (w, f, g) => at0 ≤ w ∧ w ≤ wn ∧ (∀ v, v < w → g v = Ln v ∧ ∀ k, k < Ln v → f (v * 60 + k) = X (v * 60 + k)) ∧ (∀ v, w < v → v ≤ wn → g v = Ln (v - 1) ∧ ∀ k, k < Ln (v - 1) → f (v * 60 + k) = X ((v - 1) * 60 + k)) ∧ ∀ j, f j < 128) (fun x => match x with | (w, f, g) => [(3, .int (nI w)), (2, .int (nI at0)), (1, .int (nI isz)), (0, .ref hM)]) (fun x => match x with | (w, f, g) => [(hM, .inr (1, [.ref ai, .ref aw, .ref ar, .ref al, .ref aL, .ref aD, .ref ac, .ref af, .ref ap, .ref an, .ref ax, .int (nI 0), .int (nI wn), .int (nI chn), .int (nI rn), .int (nI 0)])), (ai, nw_ai cB 60 I), (aw, nw_ai cB 60000 f), (al, nw_ai cI 1000 g)]) (fun x => match x with | (w, f, g) => w) (fun x hA1 ih1 ls H locs hl hP hD hS => ?_) (wn, X, Ln) (⟨by omega, Nat.le_refl _, fun v _ => ⟨rfl, fun k _ => rfl⟩, fun v h1 h2 => by omega, hX⟩) hl hP hD hS
            obtain ⟨w, f, g⟩ := x
            replace hA1 : at0 ≤ w ∧ w ≤ wn ∧ (∀ v, v < w → g v = Ln v ∧ ∀ k, k < Ln v → f (v * 60 + k) = X (v * 60 + k)) ∧ (∀ v, w < v → v ≤ wn → g v = Ln (v - 1) ∧ ∀ k, k < Ln (v - 1) → f (v * 60 + k) = X ((v - 1) * 60 + k)) ∧ ∀ j, f j < 128 := hA1
            replace hl : lv_has ls 4 [(3, .int (nI w)), (2, .int (nI at0)), (1, .int (nI isz)), (0, .ref hM)] := hl
            replace hP : va_P (dC, dI) nw_cls [(hM, .inr (1, [.ref ai, .ref aw, .ref ar, .ref al, .ref aL, .ref aD, .ref ac, .ref af, .ref ap, .ref an, .ref ax, .int (nI 0), .int (nI wn), .int (nI chn), .int (nI rn), .int (nI 0)])), (ai, nw_ai cB 60 I), (aw, nw_ai cB 60000 f), (al, nw_ai cI 1000 g)] H := hP
            replace hD : va_D A [(hM, .inr (1, [.ref ai, .ref aw, .ref ar, .ref al, .ref aL, .ref aD, .ref ac, .ref af, .ref ap, .ref an, .ref ax, .int (nI 0), .int (nI wn), .int (nI chn), .int (nI rn), .int (nI 0)])), (ai, nw_ai cB 60 I), (aw, nw_ai cB 60000 f), (al, nw_ai cI 1000 g)] := hD
            obtain ⟨hw1, hw3, hlo, hhi, hf⟩ := hA1
            refine lv_iload_n hx hb d_Mod_add_86 rfl (lv_at hl 0 rfl) ?_
            refine lv_iload_n hx hb d_Mod_add_87 rfl (lv_at hl 1 rfl) ?_
            refine lv_icmp_le hx hb d_Mod_add_88 (tgt := 113) (by decide) (fun q7 => ?_) (fun q7 => ?_)
            · rw [nI_leI (by omega) (by omega)] at q7
              have hw9 : w = at0 := by omega
              refine lv_iconst (v := nI 0) hx hb d_Mod_add_113 (by decide) ?_
              refine lv_istore_n hx hb d_Mod_add_114 rfl hl (by decide) rfl (fun ls hl => ?_)
              replace hl : lv_has ls 4 [(3, .int (nI 0)), (2, .int (nI at0)), (1, .int (nI isz)), (0, .ref hM)] := hl
              refine nw_loopW (σ := Nat × (Nat → Nat)) (fun x => match x with | (k, y) => k ≤ isz ∧ ∀ x, y x = va_cpy I f 0 (at0 * 60) k x) (fun x => match x with | (k, y) => [(3, .int (nI k)), (2, .int (nI at0)), (1, .int (nI isz)), (0, .ref hM)]) (fun x => match x with | (k, y) => [(hM, .inr (1, [.ref ai, .ref aw, .ref ar, .ref al, .ref aL, .ref aD, .ref ac, .ref af, .ref ap, .ref an, .ref ax, .int (nI 0), .int (nI wn), .int (nI chn), .int (nI rn), .int (nI 0)])), (ai, nw_ai cB 60 I), (aw, nw_ai cB 60000 y), (al, nw_ai cI 1000 g)]) (fun x => match x with | (k, y) => isz - k) (fun x hA2 ih2 ls H locs hl hP hD hS => ?_) (0, f) (⟨Nat.zero_le _, fun x => (nw_cpy_0 I f _ _ x).symm⟩) hl hP hD hS
              obtain ⟨k, y⟩ := x
              replace hA2 : k ≤ isz ∧ ∀ x, y x = va_cpy I f 0 (at0 * 60) k x := hA2
              replace hl : lv_has ls 4 [(3, .int (nI k)), (2, .int (nI at0)), (1, .int (nI isz)), (0, .ref hM)] := hl
              replace hP : va_P (dC, dI) nw_cls [(hM, .inr (1, [.ref ai, .ref aw, .ref ar, .ref al, .ref aL, .ref aD, .ref ac, .ref af, .ref ap, .ref an, .ref ax, .int (nI 0), .int (nI wn), .int (nI chn), .int (nI rn), .int (nI 0)])), (ai, nw_ai cB 60 I), (aw, nw_ai cB 60000 y), (al, nw_ai cI 1000 g)] H := hP
              replace hD : va_D A [(hM, .inr (1, [.ref ai, .ref aw, .ref ar, .ref al, .ref aL, .ref aD, .ref ac, .ref af, .ref ap, .ref an, .ref ax, .int (nI 0), .int (nI wn), .int (nI chn), .int (nI rn), .int (nI 0)])), (ai, nw_ai cB 60 I), (aw, nw_ai cB 60000 y), (al, nw_ai cI 1000 g)] := hD
              obtain ⟨hk1, hy⟩ := hA2
              refine lv_iload_n hx hb d_Mod_add_115 rfl (lv_at hl 0 rfl) ?_
              refine lv_iload_n hx hb d_Mod_add_116 rfl (lv_at hl 2 rfl) ?_
              refine lv_icmp_ge hx hb d_Mod_add_117 (tgt := 143) (by decide) (fun q8 => ?_) (fun q8 => ?_)
              · rw [nI_leI (by omega) (by omega)] at q8
                have hk9 : k = isz := by omega
                refine lv_aload_n hx hb d_Mod_add_143 rfl (lv_at hl 3 rfl) ?_
                refine va_get (D := (dC, dI)) (ci := 1) (v := .ref al) (C := R_Mod) (T := F_Mod) (N := 16) hx hb hts hin_Mod hown hK hP 0 rfl rfl 3 (by decide) (hts _ (nw_mc 178 rfl)) (fun _ h9 => h9) rfl d_Mod_add_144 ?_
                refine lv_iload_n hx hb d_Mod_add_147 rfl (lv_at hl 1 rfl) ?_
                refine lv_iload_n hx hb d_Mod_add_148 rfl (lv_at hl 2 rfl) ?_
                refine nw_iast hx hb hK hP hD hS 3 1 rfl rfl (k := at0) (v := isz) (by omega) (by first | decide | omega) d_Mod_add_149 (fun H locs hP hD hS => ?_)
                replace hP : va_P (dC, dI) nw_cls [(hM, .inr (1, [.ref ai, .ref aw, .ref ar, .ref al, .ref aL, .ref aD, .ref ac, .ref af, .ref ap, .ref an, .ref ax, .int (nI 0), .int (nI wn), .int (nI chn), .int (nI rn), .int (nI 0)])), (ai, nw_ai cB 60 I), (aw, nw_ai cB 60000 y), (al, nw_ai cI 1000 (va_up g at0 isz))] H := hP
                replace hD : va_D A [(hM, .inr (1, [.ref ai, .ref aw, .ref ar, .ref al, .ref aL, .ref aD, .ref ac, .ref af, .ref ap, .ref an, .ref ax, .int (nI 0), .int (nI wn), .int (nI chn), .int (nI rn), .int (nI 0)])), (ai, nw_ai cB 60 I), (aw, nw_ai cB 60000 y), (al, nw_ai cI 1000 (va_up g at0 isz))] := hD
                refine lv_aload_n hx hb d_Mod_add_150 rfl (lv_at hl 3 rfl) ?_
                refine lv_dup hx hb d_Mod_add_151 rfl ?_
                refine va_get (D := (dC, dI)) (ci := 1) (v := .int (nI wn)) (C := R_Mod) (T := F_Mod) (N := 16) hx hb hts hin_Mod hown hK hP 0 rfl rfl 12 (by decide) (hts _ (nw_mc 193 rfl)) (fun _ h9 => h9) rfl d_Mod_add_152 ?_
                refine lv_iconst (v := nI 1) hx hb d_Mod_add_155 (by decide) ?_
                refine lv_iadd hx hb d_Mod_add_156 ?_
                refine nw_ti (nI_add wn 1) ?_
                refine va_put (D := (dC, dI)) (ci := 1) (v := .int (nI (wn + 1))) (ty := .int) (C := R_Mod) (T := F_Mod) (N := 16) hx hb hts hin_Mod t_Mod t_Mod_ok n_Mod hown hK hP hD hS 0 rfl rfl 12 (by decide) (hts _ (nw_mc 193 rfl)) (fun _ h9 => h9) rfl (by decide +kernel) rfl rfl (Nat.le_of_ble_eq_true rfl) d_Mod_add_157 (fun H locs hP hD hS => ?_)
                replace hP : va_P (dC, dI) nw_cls [(hM, .inr (1, [.ref ai, .ref aw, .ref ar, .ref al, .ref aL, .ref aD, .ref ac, .ref af, .ref ap, .ref an, .ref ax, .int (nI 0), .int (nI (wn + 1)), .int (nI chn), .int (nI rn), .int (nI 0)])), (ai, nw_ai cB 60 I), (aw, nw_ai cB 60000 y), (al, nw_ai cI 1000 (va_up g at0 isz))] H := hP
                replace hD : va_D A [(hM, .inr (1, [.ref ai, .ref aw, .ref ar, .ref al, .ref aL, .ref aD, .ref ac, .ref af, .ref ap, .ref an, .ref ax, .int (nI 0), .int (nI (wn + 1)), .int (nI chn), .int (nI rn), .int (nI 0)])), (ai, nw_ai cB 60 I), (aw, nw_ai cB 60000 y), (al, nw_ai cI 1000 (va_up g at0 isz))] := hD
                refine lv_aload_n hx hb d_Mod_add_160 rfl (lv_at hl 3 rfl) ?_
                refine lv_dup hx hb d_Mod_add_161 rfl ?_
                refine va_get (D := (dC, dI)) (ci := 1) (v := .int (nI chn)) (C := R_Mod) (T := F_Mod) (N := 16) hx hb hts hin_Mod hown hK hP 0 rfl rfl 13 (by decide) (hts _ (nw_mc 206 rfl)) (fun _ h9 => h9) rfl d_Mod_add_162 ?_
                refine lv_iload_n hx hb d_Mod_add_165 rfl (lv_at hl 2 rfl) ?_
                refine lv_iadd hx hb d_Mod_add_166 ?_
                refine nw_ti (nI_add chn isz) ?_
                refine va_put (D := (dC, dI)) (ci := 1) (v := .int (nI (chn + isz))) (ty := .int) (C := R_Mod) (T := F_Mod) (N := 16) hx hb hts hin_Mod t_Mod t_Mod_ok n_Mod hown hK hP hD hS 0 rfl rfl 13 (by decide) (hts _ (nw_mc 206 rfl)) (fun _ h9 => h9) rfl (by decide +kernel) rfl rfl (Nat.le_of_ble_eq_true rfl) d_Mod_add_167 (fun H locs hP hD hS => ?_)
                replace hP : va_P (dC, dI) nw_cls [(hM, .inr (1, [.ref ai, .ref aw, .ref ar, .ref al, .ref aL, .ref aD, .ref ac, .ref af, .ref ap, .ref an, .ref ax, .int (nI 0), .int (nI (wn + 1)), .int (nI (chn + isz)), .int (nI rn), .int (nI 0)])), (ai, nw_ai cB 60 I), (aw, nw_ai cB 60000 y), (al, nw_ai cI 1000 (va_up g at0 isz))] H := hP
                replace hD : va_D A [(hM, .inr (1, [.ref ai, .ref aw, .ref ar, .ref al, .ref aL, .ref aD, .ref ac, .ref af, .ref ap, .ref an, .ref ax, .int (nI 0), .int (nI (wn + 1)), .int (nI (chn + isz)), .int (nI rn), .int (nI 0)])), (ai, nw_ai cB 60 I), (aw, nw_ai cB 60000 y), (al, nw_ai cI 1000 (va_up g at0 isz))] := hD
                refine lv_aload_n hx hb d_Mod_add_170 rfl (lv_at hl 3 rfl) ?_
                refine va_get (D := (dC, dI)) (ci := 1) (v := .int (nI (wn + 1))) (C := R_Mod) (T := F_Mod) (N := 16) hx hb hts hin_Mod hown hK hP 0 rfl rfl 12 (by decide) (hts _ (nw_mc 193 rfl)) (fun _ h9 => h9) rfl d_Mod_add_171 ?_
                exact W.iret (v := nI (wn + 1)) hx hb hr (fun t ht hW => ⟨⟨_, (y, va_up g at0 isz), rfl, ⟨rfl, fun v hv => ⟨(va_up_ne g _ (by omega)).trans (hlo v (by omega)).1, fun j hj => by
                      have := hL v (by omega)
                      show y _ = _
                      rw [hy, hk9, pk_cpy_out (by omega)]; exact (hlo v (by omega)).2 j hj⟩, ⟨va_up_self g _ _, fun j hj => by show y _ = _; rw [hy, hk9, pk_cpy_in (by omega) (by omega)]; congr 1; omega⟩, fun v h1 h2 => ⟨(va_up_ne g _ (by omega)).trans (hhi v (by omega) h2).1, fun j hj => by
                      show y _ = _
                      rw [hy, hk9, pk_cpy_out (by omega)]; exact (hhi v (by omega) h2).2 j hj⟩, fun j => by
                      show y j < 128
                      rw [hy, hk9]
                      by_cases e : at0 * 60 ≤ j ∧ j < at0 * 60 + isz
                      · rw [pk_cpy_in e.1 e.2]; exact hI0 _
                      · rw [pk_cpy_out (by omega)]; exact hf _⟩, by rw [ht]; exact hP, hD⟩, hS.F ht⟩) hS.2.2 d_Mod_add_174
              · rw [nI_leI (by omega) (by omega)] at q8
                have hv2 := hI0 k
                refine lv_aload_n hx hb d_Mod_add_120 rfl (lv_at hl 3 rfl) ?_
                refine va_get (D := (dC, dI)) (ci := 1) (v := .ref aw) (C := R_Mod) (T := F_Mod) (N := 16) hx hb hts hin_Mod hown hK hP 0 rfl rfl 1 (by decide) (hts _ (nw_mc 175 rfl)) (fun _ h9 => h9) rfl d_Mod_add_121 ?_
                refine lv_iload_n hx hb d_Mod_add_124 rfl (lv_at hl 1 rfl) ?_
                refine lv_bipush (v := nI 60) hx hb d_Mod_add_125 (by decide) ?_
                refine lv_imul hx hb d_Mod_add_127 ?_
                refine nw_ti (pk_mul at0 60) ?_
                refine lv_iload_n hx hb d_Mod_add_128 rfl (lv_at hl 0 rfl) ?_
                refine lv_iadd hx hb d_Mod_add_129 ?_
                refine nw_ti (nI_add (at0 * 60) k) ?_
                refine lv_aload_n hx hb d_Mod_add_130 rfl (lv_at hl 3 rfl) ?_
                refine va_get (D := (dC, dI)) (ci := 1) (v := .ref ai) (C := R_Mod) (T := F_Mod) (N := 16) hx hb hts hin_Mod hown hK hP 0 rfl rfl 0 (by decide) (hts _ (nw_mc 173 rfl)) (fun _ h9 => h9) rfl d_Mod_add_131 ?_
                refine lv_iload_n hx hb d_Mod_add_134 rfl (lv_at hl 0 rfl) ?_
                refine nw_bald hx hb hK hP 1 0 rfl rfl (k := k) (by omega) (by first | decide | omega) d_Mod_add_135 ?_
                refine nw_bast hx hb hK hP hD hS 2 0 rfl rfl (k := ((at0 * 60) + k)) (v := (I k)) (by omega) (by first | decide | omega) (by omega) d_Mod_add_136 (fun H locs hP hD hS => ?_)
                replace hP : va_P (dC, dI) nw_cls [(hM, .inr (1, [.ref ai, .ref aw, .ref ar, .ref al, .ref aL, .ref aD, .ref ac, .ref af, .ref ap, .ref an, .ref ax, .int (nI 0), .int (nI wn), .int (nI chn), .int (nI rn), .int (nI 0)])), (ai, nw_ai cB 60 I), (aw, nw_ai cB 60000 (va_up y ((at0 * 60) + k) (I k))), (al, nw_ai cI 1000 g)] H := hP
                replace hD : va_D A [(hM, .inr (1, [.ref ai, .ref aw, .ref ar, .ref al, .ref aL, .ref aD, .ref ac, .ref af, .ref ap, .ref an, .ref ax, .int (nI 0), .int (nI wn), .int (nI chn), .int (nI rn), .int (nI 0)])), (ai, nw_ai cB 60 I), (aw, nw_ai cB 60000 (va_up y ((at0 * 60) + k) (I k))), (al, nw_ai cI 1000 g)] := hD
                refine lv_iinc (v := nI (k + 1)) hx hb d_Mod_add_137 hl (k := 0) rfl (nI_add k 1) (by decide) rfl (fun ls hl => ?_)
                have hl : lv_has ls 4 [(3, .int (nI (k + 1))), (2, .int (nI at0)), (1, .int (nI isz)), (0, .ref hM)] := hl
                refine lv_goto hx hb d_Mod_add_140 (tgt := 115) (by decide) ?_
                exact ih2 (k + 1, va_up y ((at0 * 60) + k) (I k)) (⟨by omega, nw_cpy_s hy (by rw [Nat.zero_add])⟩) (show isz - (k + 1) < isz - k by omega) _ _ _ hl hP hD hS
            · rw [nI_leI (by omega) (by omega)] at q7
              have hg1 := (hlo (w - 1) (by omega)).1
              have hl1 := hL (w - 1) (by omega)
              refine lv_aload_n hx hb d_Mod_add_91 rfl (lv_at hl 3 rfl) ?_
              refine lv_iload_n hx hb d_Mod_add_92 rfl (lv_at hl 0 rfl) ?_
              refine lv_iconst (v := nI 1) hx hb d_Mod_add_93 (by decide) ?_
              refine lv_isub hx hb d_Mod_add_94 ?_
              refine nw_ti (pk_sub (a := w) (b := 1) (by omega)) ?_
              refine lv_iload_n hx hb d_Mod_add_95 rfl (lv_at hl 0 rfl) ?_
              refine lv_aload_n hx hb d_Mod_add_96 rfl (lv_at hl 3 rfl) ?_
              refine va_get (D := (dC, dI)) (ci := 1) (v := .ref al) (C := R_Mod) (T := F_Mod) (N := 16) hx hb hts hin_Mod hown hK hP 0 rfl rfl 3 (by decide) (hts _ (nw_mc 178 rfl)) (fun _ h9 => h9) rfl d_Mod_add_97 ?_
              refine lv_iload_n hx hb d_Mod_add_100 rfl (lv_at hl 0 rfl) ?_
              refine lv_iconst (v := nI 1) hx hb d_Mod_add_101 (by decide) ?_
              refine lv_isub hx hb d_Mod_add_102 ?_
              refine nw_ti (pk_sub (a := w) (b := 1) (by omega)) ?_
              refine nw_iald hx hb hK hP 3 1 rfl rfl (k := (w - 1)) (by omega) (by first | decide | omega) d_Mod_add_103 ?_
              refine nw_callv (wc := [(hM, .inr (1, [.ref ai, .ref aw, .ref ar, .ref al, .ref aL, .ref aD, .ref ac, .ref af, .ref ap, .ref an, .ref ax, .int (nI 0), .int (nI wn), .int (nI chn), .int (nI rn), .int (nI 0)])), (aw, nw_ai cB 60000 f), (al, nw_ai cI 1000 g)]) (wr := [(ai, nw_ai cB 60 I)]) hP hD hS hA [0, 2, 3] [1] rfl rfl (by decide) (by decide) (va_runV (As := [.int (nI (w - 1)), .int (nI w), .int (nI (g (w - 1)))]) (rest := []) ⟨hx, hb, hml, hown, hts⟩ (c_Mod_shift l dC dI _ cB cI hM ai aw ar al aL aD ac af ap an ax 0 wn chn rn 0 f g (w - 1) w (g (w - 1)) (by omega) (by omega) (by omega) (by omega) hf) (cwV (C := R_Mod) 3 hts (nw_GV (nw_m 207 rfl) (nw_m 208 rfl) (nw_m 209 rfl) (nw_m 191 rfl) (nw_m 210 rfl)) rfl rfl rfl (by decide +kernel) ⟨Nat.le_of_ble_eq_true rfl, Nat.le_of_ble_eq_true rfl⟩) (nw_prewV (q0 := 0) (ci := 1) (q := (R_Mod, F_Mod, 16)) hK hP hD [0, 2, 3] [0, 1] (by decide) rfl rfl rfl rfl) rfl rfl hl.1 rfl (lv_room (Nat.le_of_ble_eq_true rfl)) d_Mod_add_104 ⟨Nat.le_of_ble_eq_true rfl, Nat.le_of_ble_eq_true rfl⟩) (fun _ H locs hw hP hD hS => ?_)
              replace hP : va_P (dC, dI) nw_cls [(ai, nw_ai cB 60 I), (hM, .inr (1, [.ref ai, .ref aw, .ref ar, .ref al, .ref aL, .ref aD, .ref ac, .ref af, .ref ap, .ref an, .ref ax, .int (nI 0), .int (nI wn), .int (nI chn), .int (nI rn), .int (nI 0)])), (aw, nw_ai cB 60000 (va_cpy f f ((w - 1) * 60) (w * 60) (g (w - 1)))), (al, nw_ai cI 1000 (va_up g w (g (w - 1))))] H := hP
              replace hD : va_D A [(ai, nw_ai cB 60 I), (hM, .inr (1, [.ref ai, .ref aw, .ref ar, .ref al, .ref aL, .ref aD, .ref ac, .ref af, .ref ap, .ref an, .ref ax, .int (nI 0), .int (nI wn), .int (nI chn), .int (nI rn), .int (nI 0)])), (aw, nw_ai cB 60000 (va_cpy f f ((w - 1) * 60) (w * 60) (g (w - 1)))), (al, nw_ai cI 1000 (va_up g w (g (w - 1))))] := hD
              refine lv_iinc (v := nI (w - 1)) hx hb d_Mod_add_107 hl (k := 0) rfl (nw_dec 1 (by omega)) (by decide) rfl (fun ls hl => ?_)
              have hl : lv_has ls 4 [(3, .int (nI (w - 1))), (2, .int (nI at0)), (1, .int (nI isz)), (0, .ref hM)] := hl
              refine lv_goto hx hb d_Mod_add_110 (tgt := 86) (by decide) ?_
              exact ih1 (w - 1, va_cpy f f ((w - 1) * 60) (w * 60) (g (w - 1)), va_up g w (g (w - 1))) (⟨by omega, by omega, fun v hv => ⟨(va_up_ne g _ (by omega)).trans (hlo v (by omega)).1, fun k hk => by
                have := hL v (by omega)
                rw [pk_cpy_out (by omega)]; exact (hlo v (by omega)).2 k hk⟩, fun v h1 h2 => by
                by_cases e : v = w
                · refine ⟨by rw [e, va_up_self]; exact hg1, fun k hk => ?_⟩
                  rw [e] at hk ⊢
                  rw [pk_cpy_in (by omega) (by omega), show (w - 1) * 60 + (w * 60 + k - w * 60) = (w - 1) * 60 + k by omega]
                  exact (hlo (w - 1) (by omega)).2 k hk
                · refine ⟨(va_up_ne g _ e).trans (hhi v (by omega) h2).1, fun k hk => ?_⟩
                  rw [pk_cpy_out (by omega)]; exact (hhi v (by omega) h2).2 k hk, fun j => by
                by_cases e : w * 60 ≤ j ∧ j < w * 60 + g (w - 1)
                · rw [pk_cpy_in e.1 e.2]; exact hf _
                · rw [pk_cpy_out (by omega)]; exact hf _⟩) (show w - 1 < w by omega) _ _ _ hl (hP.sub [1, 0, 2, 3] rfl) (hD.sub [1, 0, 2, 3] (by decide) rfl) hS
          · rw [nI_leI (by omega) (by omega)] at q6
            omega
      · rw [nI_leI (by omega) (by omega)] at q3
        refine lv_aload_n hx hb d_Mod_add_38 rfl (lv_at hl 2 rfl) ?_
        refine lv_iload_n hx hb d_Mod_add_39 rfl (lv_at hl 0 rfl) ?_
        refine lv_iload_n hx hb d_Mod_add_40 rfl (lv_at hl 1 rfl) ?_
        refine vp_callSi (va_Run.run (va_runV (As := [.int (nI at0), .int (nI isz)]) (rest := []) ⟨hx, hb, hml, hown, hts⟩ (c_Mod_order l dC dI cB cI hM ai aw ar al aL aD ac af ap an ax 0 wn chn rn 0 I X Ln at0 isz (by omega) (by omega) (hL _ (by omega)) hX hI0) (cwV (C := R_Mod) 2 hts (nw_GV (nw_m 194 rfl) (nw_m 195 rfl) (nw_m 196 rfl) (nw_m 191 rfl) (nw_m 197 rfl)) rfl rfl rfl (by decide +kernel) ⟨Nat.le_of_ble_eq_true rfl, Nat.le_of_ble_eq_true rfl⟩) (nw_preV (q0 := 3) (ci := 1) (q := (R_Mod, F_Mod, 16)) hK hP [3, 0, 1, 2] [0, 1] rfl rfl rfl rfl) rfl rfl hl.1 rfl (lv_room (Nat.le_of_ble_eq_true rfl)) d_Mod_add_41 ⟨Nat.le_of_ble_eq_true rfl, Nat.le_of_ble_eq_true rfl⟩)) (fun r her => ?_)
        subst her
        refine lv_if_ne hx hb d_Mod_add_44 (tgt := 52) (by decide) (fun q4 => ?_) (fun q4 => ?_)
        · refine lv_aload_n hx hb d_Mod_add_52 rfl (lv_at hl 2 rfl) ?_
          refine va_get (D := (dC, dI)) (ci := 1) (v := .int (nI wn)) (C := R_Mod) (T := F_Mod) (N := 16) hx hb hts hin_Mod hown hK hP 3 rfl rfl 12 (by decide) (hts _ (nw_mc 193 rfl)) (fun _ h9 => h9) rfl d_Mod_add_53 ?_
          refine lv_sipush (v := nI 1000) hx hb d_Mod_add_56 (by decide) ?_
          refine lv_icmp_eq hx hb d_Mod_add_59 (tgt := 74) (by decide) (fun q5 => ?_) (fun q5 => ?_)
          · rw [nI_eq (by omega) (by omega)] at q5
            omega
          · rw [nI_eq (by omega) (by omega)] at q5
            refine lv_aload_n hx hb d_Mod_add_62 rfl (lv_at hl 2 rfl) ?_
            refine va_get (D := (dC, dI)) (ci := 1) (v := .int (nI chn)) (C := R_Mod) (T := F_Mod) (N := 16) hx hb hts hin_Mod hown hK hP 3 rfl rfl 13 (by decide) (hts _ (nw_mc 206 rfl)) (fun _ h9 => h9) rfl d_Mod_add_63 ?_
            refine lv_iload_n hx hb d_Mod_add_66 rfl (lv_at hl 1 rfl) ?_
            refine lv_iadd hx hb d_Mod_add_67 ?_
            refine nw_ti (nI_add chn isz) ?_
            refine lv_sipush (v := nI 12000) hx hb d_Mod_add_68 (by decide) ?_
            refine lv_icmp_le hx hb d_Mod_add_71 (tgt := 81) (by decide) (fun q6 => ?_) (fun q6 => ?_)
            · rw [nI_leI (by omega) (by omega)] at q6
              refine lv_aload_n hx hb d_Mod_add_81 rfl (lv_at hl 2 rfl) ?_
              refine va_get (D := (dC, dI)) (ci := 1) (v := .int (nI wn)) (C := R_Mod) (T := F_Mod) (N := 16) hx hb hts hin_Mod hown hK hP 3 rfl rfl 12 (by decide) (hts _ (nw_mc 193 rfl)) (fun _ h9 => h9) rfl d_Mod_add_82 ?_
              refine lv_istore_n hx hb d_Mod_add_85 rfl hl (by decide) rfl (fun ls hl => ?_)
              replace hl : lv_has ls 4 [(3, .int (nI wn)), (2, .int (nI at0)), (1, .int (nI isz)), (0, .ref hM)] := hl
              have hP := hP.sub (ws' := [(hM, .inr (1, [.ref ai, .ref aw, .ref ar, .ref al, .ref aL, .ref aD, .ref ac, .ref af, .ref ap, .ref an, .ref ax, .int (nI 0), .int (nI wn), .int (nI chn), .int (nI rn), .int (nI 0)])), (ai, nw_ai cB 60 I), (aw, nw_ai cB 60000 X), (al, nw_ai cI 1000 Ln)]) [3, 0, 1, 2] rfl
              have hD := hD.sub (ws' := [(hM, .inr (1, [.ref ai, .ref aw, .ref ar, .ref al, .ref aL, .ref aD, .ref ac, .ref af, .ref ap, .ref an, .ref ax, .int (nI 0), .int (nI wn), .int (nI chn), .int (nI rn), .int (nI 0)])), (ai, nw_ai cB 60 I), (aw, nw_ai cB 60000 X), (al, nw_ai cI 1000 Ln)]) [3, 0, 1, 2] (by decide) rfl
              refine nw_loopW (σ := Nat × (Nat → Nat) × (Nat → Nat)) (fun x => match x with | (w, f, g) => at0 ≤ w ∧ w ≤ wn ∧ (∀ v, v < w → g v = Ln v ∧ ∀ k, k < Ln v → f (v * 60 + k) = X (v * 60 + k)) ∧ (∀ v, w < v → v ≤ wn → g v = Ln (v - 1) ∧ ∀ k, k < Ln (v - 1) → f (v * 60 + k) = X ((v - 1) * 60 + k)) ∧ ∀ j, f j < 128) (fun x => match x with | (w, f, g) => [(3, .int (nI w)), (2, .int (nI at0)), (1, .int (nI isz)), (0, .ref hM)]) (fun x => match x with | (w, f, g) => [(hM, .inr (1, [.ref ai, .ref aw, .ref ar, .ref al, .ref aL, .ref aD, .ref ac, .ref af, .ref ap, .ref an, .ref ax, .int (nI 0), .int (nI wn), .int (nI chn), .int (nI rn), .int (nI 0)])), (ai, nw_ai cB 60 I), (aw, nw_ai cB 60000 f), (al, nw_ai cI 1000 g)]) (fun x => match x with | (w, f, g) => w) (fun x hA1 ih1 ls H locs hl hP hD hS => ?_) (wn, X, Ln) (⟨by omega, Nat.le_refl _, fun v _ => ⟨rfl, fun k _ => rfl⟩, fun v h1 h2 => by omega, hX⟩) hl hP hD hS
              obtain ⟨w, f, g⟩ := x
              replace hA1 : at0 ≤ w ∧ w ≤ wn ∧ (∀ v, v < w → g v = Ln v ∧ ∀ k, k < Ln v → f (v * 60 + k) = X (v * 60 + k)) ∧ (∀ v, w < v → v ≤ wn → g v = Ln (v - 1) ∧ ∀ k, k < Ln (v - 1) → f (v * 60 + k) = X ((v - 1) * 60 + k)) ∧ ∀ j, f j < 128 := hA1
              replace hl : lv_has ls 4 [(3, .int (nI w)), (2, .int (nI at0)), (1, .int (nI isz)), (0, .ref hM)] := hl
              replace hP : va_P (dC, dI) nw_cls [(hM, .inr (1, [.ref ai, .ref aw, .ref ar, .ref al, .ref aL, .ref aD, .ref ac, .ref af, .ref ap, .ref an, .ref ax, .int (nI 0), .int (nI wn), .int (nI chn), .int (nI rn), .int (nI 0)])), (ai, nw_ai cB 60 I), (aw, nw_ai cB 60000 f), (al, nw_ai cI 1000 g)] H := hP
              replace hD : va_D A [(hM, .inr (1, [.ref ai, .ref aw, .ref ar, .ref al, .ref aL, .ref aD, .ref ac, .ref af, .ref ap, .ref an, .ref ax, .int (nI 0), .int (nI wn), .int (nI chn), .int (nI rn), .int (nI 0)])), (ai, nw_ai cB 60 I), (aw, nw_ai cB 60000 f), (al, nw_ai cI 1000 g)] := hD
              obtain ⟨hw1, hw3, hlo, hhi, hf⟩ := hA1
              refine lv_iload_n hx hb d_Mod_add_86 rfl (lv_at hl 0 rfl) ?_
              refine lv_iload_n hx hb d_Mod_add_87 rfl (lv_at hl 1 rfl) ?_
              refine lv_icmp_le hx hb d_Mod_add_88 (tgt := 113) (by decide) (fun q7 => ?_) (fun q7 => ?_)
              · rw [nI_leI (by omega) (by omega)] at q7
                have hw9 : w = at0 := by omega
                refine lv_iconst (v := nI 0) hx hb d_Mod_add_113 (by decide) ?_
                refine lv_istore_n hx hb d_Mod_add_114 rfl hl (by decide) rfl (fun ls hl => ?_)
                replace hl : lv_has ls 4 [(3, .int (nI 0)), (2, .int (nI at0)), (1, .int (nI isz)), (0, .ref hM)] := hl
                refine nw_loopW (σ := Nat × (Nat → Nat)) (fun x => match x with | (k, y) => k ≤ isz ∧ ∀ x, y x = va_cpy I f 0 (at0 * 60) k x) (fun x => match x with | (k, y) => [(3, .int (nI k)), (2, .int (nI at0)), (1, .int (nI isz)), (0, .ref hM)]) (fun x => match x with | (k, y) => [(hM, .inr (1, [.ref ai, .ref aw, .ref ar, .ref al, .ref aL, .ref aD, .ref ac, .ref af, .ref ap, .ref an, .ref ax, .int (nI 0), .int (nI wn), .int (nI chn), .int (nI rn), .int (nI 0)])), (ai, nw_ai cB 60 I), (aw, nw_ai cB 60000 y), (al, nw_ai cI 1000 g)]) (fun x => match x with | (k, y) => isz - k) (fun x hA2 ih2 ls H locs hl hP hD hS => ?_) (0, f) (⟨Nat.zero_le _, fun x => (nw_cpy_0 I f _ _ x).symm⟩) hl hP hD hS
                obtain ⟨k, y⟩ := x
                replace hA2 : k ≤ isz ∧ ∀ x, y x = va_cpy I f 0 (at0 * 60) k x := hA2
                replace hl : lv_has ls 4 [(3, .int (nI k)), (2, .int (nI at0)), (1, .int (nI isz)), (0, .ref hM)] := hl
                replace hP : va_P (dC, dI) nw_cls [(hM, .inr (1, [.ref ai, .ref aw, .ref ar, .ref al, .ref aL, .ref aD, .ref ac, .ref af, .ref ap, .ref an, .ref ax, .int (nI 0), .int (nI wn), .int (nI chn), .int (nI rn), .int (nI 0)])), (ai, nw_ai cB 60 I), (aw, nw_ai cB 60000 y), (al, nw_ai cI 1000 g)] H := hP
                replace hD : va_D A [(hM, .inr (1, [.ref ai, .ref aw, .ref ar, .ref al, .ref aL, .ref aD, .ref ac, .ref af, .ref ap, .ref an, .ref ax, .int (nI 0), .int (nI wn), .int (nI chn), .int (nI rn), .int (nI 0)])), (ai, nw_ai cB 60 I), (aw, nw_ai cB 60000 y), (al, nw_ai cI 1000 g)] := hD
                obtain ⟨hk1, hy⟩ := hA2
                refine lv_iload_n hx hb d_Mod_add_115 rfl (lv_at hl 0 rfl) ?_
                refine lv_iload_n hx hb d_Mod_add_116 rfl (lv_at hl 2 rfl) ?_
                refine lv_icmp_ge hx hb d_Mod_add_117 (tgt := 143) (by decide) (fun q8 => ?_) (fun q8 => ?_)
                · rw [nI_leI (by omega) (by omega)] at q8
                  have hk9 : k = isz := by omega
                  refine lv_aload_n hx hb d_Mod_add_143 rfl (lv_at hl 3 rfl) ?_
                  refine va_get (D := (dC, dI)) (ci := 1) (v := .ref al) (C := R_Mod) (T := F_Mod) (N := 16) hx hb hts hin_Mod hown hK hP 0 rfl rfl 3 (by decide) (hts _ (nw_mc 178 rfl)) (fun _ h9 => h9) rfl d_Mod_add_144 ?_
                  refine lv_iload_n hx hb d_Mod_add_147 rfl (lv_at hl 1 rfl) ?_
                  refine lv_iload_n hx hb d_Mod_add_148 rfl (lv_at hl 2 rfl) ?_
                  refine nw_iast hx hb hK hP hD hS 3 1 rfl rfl (k := at0) (v := isz) (by omega) (by first | decide | omega) d_Mod_add_149 (fun H locs hP hD hS => ?_)
                  replace hP : va_P (dC, dI) nw_cls [(hM, .inr (1, [.ref ai, .ref aw, .ref ar, .ref al, .ref aL, .ref aD, .ref ac, .ref af, .ref ap, .ref an, .ref ax, .int (nI 0), .int (nI wn), .int (nI chn), .int (nI rn), .int (nI 0)])), (ai, nw_ai cB 60 I), (aw, nw_ai cB 60000 y), (al, nw_ai cI 1000 (va_up g at0 isz))] H := hP
                  replace hD : va_D A [(hM, .inr (1, [.ref ai, .ref aw, .ref ar, .ref al, .ref aL, .ref aD, .ref ac, .ref af, .ref ap, .ref an, .ref ax, .int (nI 0), .int (nI wn), .int (nI chn), .int (nI rn), .int (nI 0)])), (ai, nw_ai cB 60 I), (aw, nw_ai cB 60000 y), (al, nw_ai cI 1000 (va_up g at0 isz))] := hD
                  refine lv_aload_n hx hb d_Mod_add_150 rfl (lv_at hl 3 rfl) ?_
                  refine lv_dup hx hb d_Mod_add_151 rfl ?_
                  refine va_get (D := (dC, dI)) (ci := 1) (v := .int (nI wn)) (C := R_Mod) (T := F_Mod) (N := 16) hx hb hts hin_Mod hown hK hP 0 rfl rfl 12 (by decide) (hts _ (nw_mc 193 rfl)) (fun _ h9 => h9) rfl d_Mod_add_152 ?_
                  refine lv_iconst (v := nI 1) hx hb d_Mod_add_155 (by decide) ?_
                  refine lv_iadd hx hb d_Mod_add_156 ?_
                  refine nw_ti (nI_add wn 1) ?_
                  refine va_put (D := (dC, dI)) (ci := 1) (v := .int (nI (wn + 1))) (ty := .int) (C := R_Mod) (T := F_Mod) (N := 16) hx hb hts hin_Mod t_Mod t_Mod_ok n_Mod hown hK hP hD hS 0 rfl rfl 12 (by decide) (hts _ (nw_mc 193 rfl)) (fun _ h9 => h9) rfl (by decide +kernel) rfl rfl (Nat.le_of_ble_eq_true rfl) d_Mod_add_157 (fun H locs hP hD hS => ?_)
                  replace hP : va_P (dC, dI) nw_cls [(hM, .inr (1, [.ref ai, .ref aw, .ref ar, .ref al, .ref aL, .ref aD, .ref ac, .ref af, .ref ap, .ref an, .ref ax, .int (nI 0), .int (nI (wn + 1)), .int (nI chn), .int (nI rn), .int (nI 0)])), (ai, nw_ai cB 60 I), (aw, nw_ai cB 60000 y), (al, nw_ai cI 1000 (va_up g at0 isz))] H := hP
                  replace hD : va_D A [(hM, .inr (1, [.ref ai, .ref aw, .ref ar, .ref al, .ref aL, .ref aD, .ref ac, .ref af, .ref ap, .ref an, .ref ax, .int (nI 0), .int (nI (wn + 1)), .int (nI chn), .int (nI rn), .int (nI 0)])), (ai, nw_ai cB 60 I), (aw, nw_ai cB 60000 y), (al, nw_ai cI 1000 (va_up g at0 isz))] := hD
                  refine lv_aload_n hx hb d_Mod_add_160 rfl (lv_at hl 3 rfl) ?_
                  refine lv_dup hx hb d_Mod_add_161 rfl ?_
                  refine va_get (D := (dC, dI)) (ci := 1) (v := .int (nI chn)) (C := R_Mod) (T := F_Mod) (N := 16) hx hb hts hin_Mod hown hK hP 0 rfl rfl 13 (by decide) (hts _ (nw_mc 206 rfl)) (fun _ h9 => h9) rfl d_Mod_add_162 ?_
                  refine lv_iload_n hx hb d_Mod_add_165 rfl (lv_at hl 2 rfl) ?_
                  refine lv_iadd hx hb d_Mod_add_166 ?_
                  refine nw_ti (nI_add chn isz) ?_
                  refine va_put (D := (dC, dI)) (ci := 1) (v := .int (nI (chn + isz))) (ty := .int) (C := R_Mod) (T := F_Mod) (N := 16) hx hb hts hin_Mod t_Mod t_Mod_ok n_Mod hown hK hP hD hS 0 rfl rfl 13 (by decide) (hts _ (nw_mc 206 rfl)) (fun _ h9 => h9) rfl (by decide +kernel) rfl rfl (Nat.le_of_ble_eq_true rfl) d_Mod_add_167 (fun H locs hP hD hS => ?_)
                  replace hP : va_P (dC, dI) nw_cls [(hM, .inr (1, [.ref ai, .ref aw, .ref ar, .ref al, .ref aL, .ref aD, .ref ac, .ref af, .ref ap, .ref an, .ref ax, .int (nI 0), .int (nI (wn + 1)), .int (nI (chn + isz)), .int (nI rn), .int (nI 0)])), (ai, nw_ai cB 60 I), (aw, nw_ai cB 60000 y), (al, nw_ai cI 1000 (va_up g at0 isz))] H := hP
                  replace hD : va_D A [(hM, .inr (1, [.ref ai, .ref aw, .ref ar, .ref al, .ref aL, .ref aD, .ref ac, .ref af, .ref ap, .ref an, .ref ax, .int (nI 0), .int (nI (wn + 1)), .int (nI (chn + isz)), .int (nI rn), .int (nI 0)])), (ai, nw_ai cB 60 I), (aw, nw_ai cB 60000 y), (al, nw_ai cI 1000 (va_up g at0 isz))] := hD
                  refine lv_aload_n hx hb d_Mod_add_170 rfl (lv_at hl 3 rfl) ?_
                  refine va_get (D := (dC, dI)) (ci := 1) (v := .int (nI (wn + 1))) (C := R_Mod) (T := F_Mod) (N := 16) hx hb hts hin_Mod hown hK hP 0 rfl rfl 12 (by decide) (hts _ (nw_mc 193 rfl)) (fun _ h9 => h9) rfl d_Mod_add_171 ?_
                  exact W.iret (v := nI (wn + 1)) hx hb hr (fun t ht hW => ⟨⟨_, (y, va_up g at0 isz), rfl, ⟨rfl, fun v hv => ⟨(va_up_ne g _ (by omega)).trans (hlo v (by omega)).1, fun j hj => by
                        have := hL v (by omega)
                        show y _ = _
                        rw [hy, hk9, pk_cpy_out (by omega)]; exact (hlo v (by omega)).2 j hj⟩, ⟨va_up_self g _ _, fun j hj => by show y _ = _; rw [hy, hk9, pk_cpy_in (by omega) (by omega)]; congr 1; omega⟩, fun v h1 h2 => ⟨(va_up_ne g _ (by omega)).trans (hhi v (by omega) h2).1, fun j hj => by
                        show y _ = _
                        rw [hy, hk9, pk_cpy_out (by omega)]; exact (hhi v (by omega) h2).2 j hj⟩, fun j => by
                        show y j < 128
                        rw [hy, hk9]
                        by_cases e : at0 * 60 ≤ j ∧ j < at0 * 60 + isz
                        · rw [pk_cpy_in e.1 e.2]; exact hI0 _
                        · rw [pk_cpy_out (by omega)]; exact hf _⟩, by rw [ht]; exact hP, hD⟩, hS.F ht⟩) hS.2.2 d_Mod_add_174
                · rw [nI_leI (by omega) (by omega)] at q8
                  have hv2 := hI0 k
                  refine lv_aload_n hx hb d_Mod_add_120 rfl (lv_at hl 3 rfl) ?_
                  refine va_get (D := (dC, dI)) (ci := 1) (v := .ref aw) (C := R_Mod) (T := F_Mod) (N := 16) hx hb hts hin_Mod hown hK hP 0 rfl rfl 1 (by decide) (hts _ (nw_mc 175 rfl)) (fun _ h9 => h9) rfl d_Mod_add_121 ?_
                  refine lv_iload_n hx hb d_Mod_add_124 rfl (lv_at hl 1 rfl) ?_
                  refine lv_bipush (v := nI 60) hx hb d_Mod_add_125 (by decide) ?_
                  refine lv_imul hx hb d_Mod_add_127 ?_
                  refine nw_ti (pk_mul at0 60) ?_
                  refine lv_iload_n hx hb d_Mod_add_128 rfl (lv_at hl 0 rfl) ?_
                  refine lv_iadd hx hb d_Mod_add_129 ?_
                  refine nw_ti (nI_add (at0 * 60) k) ?_
                  refine lv_aload_n hx hb d_Mod_add_130 rfl (lv_at hl 3 rfl) ?_
                  refine va_get (D := (dC, dI)) (ci := 1) (v := .ref ai) (C := R_Mod) (T := F_Mod) (N := 16) hx hb hts hin_Mod hown hK hP 0 rfl rfl 0 (by decide) (hts _ (nw_mc 173 rfl)) (fun _ h9 => h9) rfl d_Mod_add_131 ?_
                  refine lv_iload_n hx hb d_Mod_add_134 rfl (lv_at hl 0 rfl) ?_
                  refine nw_bald hx hb hK hP 1 0 rfl rfl (k := k) (by omega) (by first | decide | omega) d_Mod_add_135 ?_
                  refine nw_bast hx hb hK hP hD hS 2 0 rfl rfl (k := ((at0 * 60) + k)) (v := (I k)) (by omega) (by first | decide | omega) (by omega) d_Mod_add_136 (fun H locs hP hD hS => ?_)
                  replace hP : va_P (dC, dI) nw_cls [(hM, .inr (1, [.ref ai, .ref aw, .ref ar, .ref al, .ref aL, .ref aD, .ref ac, .ref af, .ref ap, .ref an, .ref ax, .int (nI 0), .int (nI wn), .int (nI chn), .int (nI rn), .int (nI 0)])), (ai, nw_ai cB 60 I), (aw, nw_ai cB 60000 (va_up y ((at0 * 60) + k) (I k))), (al, nw_ai cI 1000 g)] H := hP
                  replace hD : va_D A [(hM, .inr (1, [.ref ai, .ref aw, .ref ar, .ref al, .ref aL, .ref aD, .ref ac, .ref af, .ref ap, .ref an, .ref ax, .int (nI 0), .int (nI wn), .int (nI chn), .int (nI rn), .int (nI 0)])), (ai, nw_ai cB 60 I), (aw, nw_ai cB 60000 (va_up y ((at0 * 60) + k) (I k))), (al, nw_ai cI 1000 g)] := hD
                  refine lv_iinc (v := nI (k + 1)) hx hb d_Mod_add_137 hl (k := 0) rfl (nI_add k 1) (by decide) rfl (fun ls hl => ?_)
                  have hl : lv_has ls 4 [(3, .int (nI (k + 1))), (2, .int (nI at0)), (1, .int (nI isz)), (0, .ref hM)] := hl
                  refine lv_goto hx hb d_Mod_add_140 (tgt := 115) (by decide) ?_
                  exact ih2 (k + 1, va_up y ((at0 * 60) + k) (I k)) (⟨by omega, nw_cpy_s hy (by rw [Nat.zero_add])⟩) (show isz - (k + 1) < isz - k by omega) _ _ _ hl hP hD hS
              · rw [nI_leI (by omega) (by omega)] at q7
                have hg1 := (hlo (w - 1) (by omega)).1
                have hl1 := hL (w - 1) (by omega)
                refine lv_aload_n hx hb d_Mod_add_91 rfl (lv_at hl 3 rfl) ?_
                refine lv_iload_n hx hb d_Mod_add_92 rfl (lv_at hl 0 rfl) ?_
                refine lv_iconst (v := nI 1) hx hb d_Mod_add_93 (by decide) ?_
                refine lv_isub hx hb d_Mod_add_94 ?_
                refine nw_ti (pk_sub (a := w) (b := 1) (by omega)) ?_
                refine lv_iload_n hx hb d_Mod_add_95 rfl (lv_at hl 0 rfl) ?_
                refine lv_aload_n hx hb d_Mod_add_96 rfl (lv_at hl 3 rfl) ?_
                refine va_get (D := (dC, dI)) (ci := 1) (v := .ref al) (C := R_Mod) (T := F_Mod) (N := 16) hx hb hts hin_Mod hown hK hP 0 rfl rfl 3 (by decide) (hts _ (nw_mc 178 rfl)) (fun _ h9 => h9) rfl d_Mod_add_97 ?_
                refine lv_iload_n hx hb d_Mod_add_100 rfl (lv_at hl 0 rfl) ?_
                refine lv_iconst (v := nI 1) hx hb d_Mod_add_101 (by decide) ?_
                refine lv_isub hx hb d_Mod_add_102 ?_
                refine nw_ti (pk_sub (a := w) (b := 1) (by omega)) ?_
                refine nw_iald hx hb hK hP 3 1 rfl rfl (k := (w - 1)) (by omega) (by first | decide | omega) d_Mod_add_103 ?_
                refine nw_callv (wc := [(hM, .inr (1, [.ref ai, .ref aw, .ref ar, .ref al, .ref aL, .ref aD, .ref ac, .ref af, .ref ap, .ref an, .ref ax, .int (nI 0), .int (nI wn), .int (nI chn), .int (nI rn), .int (nI 0)])), (aw, nw_ai cB 60000 f), (al, nw_ai cI 1000 g)]) (wr := [(ai, nw_ai cB 60 I)]) hP hD hS hA [0, 2, 3] [1] rfl rfl (by decide) (by decide) (va_runV (As := [.int (nI (w - 1)), .int (nI w), .int (nI (g (w - 1)))]) (rest := []) ⟨hx, hb, hml, hown, hts⟩ (c_Mod_shift l dC dI _ cB cI hM ai aw ar al aL aD ac af ap an ax 0 wn chn rn 0 f g (w - 1) w (g (w - 1)) (by omega) (by omega) (by omega) (by omega) hf) (cwV (C := R_Mod) 3 hts (nw_GV (nw_m 207 rfl) (nw_m 208 rfl) (nw_m 209 rfl) (nw_m 191 rfl) (nw_m 210 rfl)) rfl rfl rfl (by decide +kernel) ⟨Nat.le_of_ble_eq_true rfl, Nat.le_of_ble_eq_true rfl⟩) (nw_prewV (q0 := 0) (ci := 1) (q := (R_Mod, F_Mod, 16)) hK hP hD [0, 2, 3] [0, 1] (by decide) rfl rfl rfl rfl) rfl rfl hl.1 rfl (lv_room (Nat.le_of_ble_eq_true rfl)) d_Mod_add_104 ⟨Nat.le_of_ble_eq_true rfl, Nat.le_of_ble_eq_true rfl⟩) (fun _ H locs hw hP hD hS => ?_)
                replace hP : va_P (dC, dI) nw_cls [(ai, nw_ai cB 60 I), (hM, .inr (1, [.ref ai, .ref aw, .ref ar, .ref al, .ref aL, .ref aD, .ref ac, .ref af, .ref ap, .ref an, .ref ax, .int (nI 0), .int (nI wn), .int (nI chn), .int (nI rn), .int (nI 0)])), (aw, nw_ai cB 60000 (va_cpy f f ((w - 1) * 60) (w * 60) (g (w - 1)))), (al, nw_ai cI 1000 (va_up g w (g (w - 1))))] H := hP
                replace hD : va_D A [(ai, nw_ai cB 60 I), (hM, .inr (1, [.ref ai, .ref aw, .ref ar, .ref al, .ref aL, .ref aD, .ref ac, .ref af, .ref ap, .ref an, .ref ax, .int (nI 0), .int (nI wn), .int (nI chn), .int (nI rn), .int (nI 0)])), (aw, nw_ai cB 60000 (va_cpy f f ((w - 1) * 60) (w * 60) (g (w - 1)))), (al, nw_ai cI 1000 (va_up g w (g (w - 1))))] := hD
                refine lv_iinc (v := nI (w - 1)) hx hb d_Mod_add_107 hl (k := 0) rfl (nw_dec 1 (by omega)) (by decide) rfl (fun ls hl => ?_)
                have hl : lv_has ls 4 [(3, .int (nI (w - 1))), (2, .int (nI at0)), (1, .int (nI isz)), (0, .ref hM)] := hl
                refine lv_goto hx hb d_Mod_add_110 (tgt := 86) (by decide) ?_
                exact ih1 (w - 1, va_cpy f f ((w - 1) * 60) (w * 60) (g (w - 1)), va_up g w (g (w - 1))) (⟨by omega, by omega, fun v hv => ⟨(va_up_ne g _ (by omega)).trans (hlo v (by omega)).1, fun k hk => by
                  have := hL v (by omega)
                  rw [pk_cpy_out (by omega)]; exact (hlo v (by omega)).2 k hk⟩, fun v h1 h2 => by
                  by_cases e : v = w
                  · refine ⟨by rw [e, va_up_self]; exact hg1, fun k hk => ?_⟩
                    rw [e] at hk ⊢
                    rw [pk_cpy_in (by omega) (by omega), show (w - 1) * 60 + (w * 60 + k - w * 60) = (w - 1) * 60 + k by omega]
                    exact (hlo (w - 1) (by omega)).2 k hk
                  · refine ⟨(va_up_ne g _ e).trans (hhi v (by omega) h2).1, fun k hk => ?_⟩
                    rw [pk_cpy_out (by omega)]; exact (hhi v (by omega) h2).2 k hk, fun j => by
                  by_cases e : w * 60 ≤ j ∧ j < w * 60 + g (w - 1)
                  · rw [pk_cpy_in e.1 e.2]; exact hf _
                  · rw [pk_cpy_out (by omega)]; exact hf _⟩) (show w - 1 < w by omega) _ _ _ hl (hP.sub [1, 0, 2, 3] rfl) (hD.sub [1, 0, 2, 3] (by decide) rfl) hS
            · rw [nI_leI (by omega) (by omega)] at q6
              omega
        · exact absurd ⟨by omega, q4⟩ ho
    · rw [nw_eq0 (by omega)] at q2
      omega
  · rw [nw_eq0 (by omega)] at q1
    omega

set_option maxHeartbeats 4000000 in
set_option maxRecDepth 100000 in
theorem c_Mod_remove_no (l : Launch) (dC : Nat → ClassId) (dI : Nat → Nat → Nat) (sz : Nat) (cB cI : ClassId) (hM ai aw ar al aL aD ac af ap an ax isz wn chn rn th : Nat) (I X Ln : Nat → Nat) (at0 : Nat) (hat : at0 = nw_cnt (fun i => nw_cm (fun k => X (i * 60 + k)) (Ln i) I isz < 0) wn) (h1 : 1 ≤ isz) (hw : wn ≤ 1000) (hn : isz ≤ 60) (hL : ∀ i, i < wn → Ln i ≤ 60) (hX : ∀ j, X j < 128) (hI0 : ∀ j, I j < 128) (ho : ¬ (at0 < wn ∧ nw_cm (fun k => X (at0 * 60 + k)) (Ln at0) I isz = 0)) : Met l y_Mod_remove w_Mod_remove ({ frames := 3, cells := 0, slots := 0, locals := 68 }) (nw_Pw [.ref hM] (dC, dI) nw_cls [(cB, .byte), (cI, .int)] [(hM, .inr (1, [.ref ai, .ref aw, .ref ar, .ref al, .ref aL, .ref aD, .ref ac, .ref af, .ref ap, .ref an, .ref ax, .int (nI isz), .int (nI wn), .int (nI chn), .int (nI rn), .int (nI th)])), (ai, nw_ai cB 60 I), (aw, nw_ai cB 60000 X), (al, nw_ai cI 1000 Ln)] sz) (va_Qi (fun (r : Int32) (_ : Unit) => r = nI wn) (nw_B (dC, dI) nw_cls (va_A [(hM, .inr (1, [.ref ai, .ref aw, .ref ar, .ref al, .ref aL, .ref aD, .ref ac, .ref af, .ref ap, .ref an, .ref ax, .int (nI isz), .int (nI wn), .int (nI chn), .int (nI rn), .int (nI th)])), (ai, nw_ai cB 60 I), (aw, nw_ai cB 60000 X), (al, nw_ai cI 1000 Ln)] sz) (fun _ : Unit => [(hM, .inr (1, [.ref ai, .ref aw, .ref ar, .ref al, .ref aL, .ref aD, .ref ac, .ref af, .ref ap, .ref an, .ref ax, .int (nI 0), .int (nI wn), .int (nI chn), .int (nI rn), .int (nI 0)])), (ai, nw_ai cB 60 I), (aw, nw_ai cB 60000 X), (al, nw_ai cI 1000 Ln)])) (va_A [(hM, .inr (1, [.ref ai, .ref aw, .ref ar, .ref al, .ref aL, .ref aD, .ref ac, .ref af, .ref ap, .ref an, .ref ax, .int (nI isz), .int (nI wn), .int (nI chn), .int (nI rn), .int (nI th)])), (ai, nw_ai cB 60 I), (aw, nw_ai cB 60000 X), (al, nw_ai cI 1000 Ln)] sz)) 0 0 (va_A [(hM, .inr (1, [.ref ai, .ref aw, .ref ar, .ref al, .ref aL, .ref aD, .ref ac, .ref af, .ref ap, .ref an, .ref ax, .int (nI isz), .int (nI wn), .int (nI chn), .int (nI rn), .int (nI th)])), (ai, nw_ai cB 60 I), (aw, nw_ai cB 60000 X), (al, nw_ai cI 1000 Ln)] sz) := by
  refine Met.ofW (cc := b_Mod_remove) (maxL := 4) (ret := (some .int)) (by decide) rfl ?_
  intro p e s m args below meth cd s₁ B hml hv0
  obtain ⟨rfl, hsz, hP, hK, hD0⟩ := hv0
  have hx := B.exec
  have hb := B.bytes
  have hr := B.returns
  have hts := atoms_spec (ws := w_Mod_remove) B.pre
  have hown : s.vm.findClass R_Mod = some m.cls := findClass_of_methodNamed B.named
  have hlocks := B.notSynchronized
  subst hsz
  have hD := hD0.self (sz := s.heap.size)
  generalize hAe : va_A [(hM, .inr (1, [.ref ai, .ref aw, .ref ar, .ref al, .ref aL, .ref aD, .ref ac, .ref af, .ref ap, .ref an, .ref ax, .int (nI isz), .int (nI wn), .int (nI chn), .int (nI rn), .int (nI th)])), (ai, nw_ai cB 60 I), (aw, nw_ai cB 60000 X), (al, nw_ai cI 1000 Ln)] s.heap.size = A at hD ⊢
  have hA : ∀ q : Nat, s.heap.size ≤ q → A q := fun q h => by rw [← hAe]; exact Or.inr h
  have hS : va_S A s.heap s.heap [] := va_S.rf
  have hl := lv_entry ([.ref hM]) (n := 4) (Nat.le_of_ble_eq_true rfl)
  rw [lg_entry_eq]
  generalize (lg_sl ([.ref hM]) ++ List.replicate (4 - (lg_sl ([.ref hM])).length) Slot.unset).toArray = ls at hl ⊢
  have hl : lv_has ls 4 [(0, .ref hM)] := hl
  have hat1 := nw_cnt_le (fun i => nw_cm (fun k => X (i * 60 + k)) (Ln i) I isz < 0) wn
  refine lv_aload_n hx hb d_Mod_remove_0 rfl (lv_at hl 0 rfl) ?_
  refine nw_calli (wc := [(hM, .inr (1, [.ref ai, .ref aw, .ref ar, .ref al, .ref aL, .ref aD, .ref ac, .ref af, .ref ap, .ref an, .ref ax, .int (nI isz), .int (nI wn), .int (nI chn), .int (nI rn), .int (nI th)]))]) (wr := [(ai, nw_ai cB 60 I), (aw, nw_ai cB 60000 X), (al, nw_ai cI 1000 Ln)]) hP hD hS hA [0] [1, 2, 3] rfl rfl (by decide) (by decide) (va_runV (As := []) (rest := []) ⟨hx, hb, hml, hown, hts⟩ (c_Mod_take l dC dI _ hM ai aw ar al aL aD ac af ap an ax isz wn chn rn th) (cwV (C := R_Mod) 0 hts (nw_GV (nw_m 198 rfl) (nw_m 199 rfl) (nw_m 200 rfl) (nw_m 191 rfl) (nw_m 201 rfl)) rfl rfl rfl (by decide +kernel) ⟨Nat.le_of_ble_eq_true rfl, Nat.le_of_ble_eq_true rfl⟩) (nw_prewV (q0 := 0) (ci := 1) (q := (R_Mod, F_Mod, 16)) hK hP hD [0] [] (by decide) rfl rfl rfl rfl) rfl rfl hl.1 rfl (lv_room (Nat.le_of_ble_eq_true rfl)) d_Mod_remove_1 ⟨Nat.le_of_ble_eq_true rfl, Nat.le_of_ble_eq_true rfl⟩) (fun r _ H locs hw hP hD hS => ?_)
  replace hP : va_P (dC, dI) nw_cls [(ai, nw_ai cB 60 I), (aw, nw_ai cB 60000 X), (al, nw_ai cI 1000 Ln), (hM, .inr (1, [.ref ai, .ref aw, .ref ar, .ref al, .ref aL, .ref aD, .ref ac, .ref af, .ref ap, .ref an, .ref ax, .int (nI 0), .int (nI wn), .int (nI chn), .int (nI rn), .int (nI th)]))] H := hP
  replace hD : va_D A [(ai, nw_ai cB 60 I), (aw, nw_ai cB 60000 X), (al, nw_ai cI 1000 Ln), (hM, .inr (1, [.ref ai, .ref aw, .ref ar, .ref al, .ref aL, .ref aD, .ref ac, .ref af, .ref ap, .ref an, .ref ax, .int (nI 0), .int (nI wn), .int (nI chn), .int (nI rn), .int (nI th)]))] := hD
  obtain rfl : r = nI isz := hw
  refine lv_istore_n hx hb d_Mod_remove_4 rfl hl (by decide) rfl (fun ls hl => ?_)
  replace hl : lv_has ls 4 [(1, .int (nI isz)), (0, .ref hM)] := hl
  refine lv_aload_n hx hb d_Mod_remove_5 rfl (lv_at hl 1 rfl) ?_
  refine lv_iload_n hx hb d_Mod_remove_6 rfl (lv_at hl 0 rfl) ?_
  refine lv_if_ne hx hb d_Mod_remove_7 (tgt := 14) (by decide) (fun q1 => ?_) (fun q1 => ?_)
  · rw [nw_eq0 (by omega)] at q1
    refine lv_iconst (v := nI 0) hx hb d_Mod_remove_14 (by decide) ?_
    refine va_put (D := (dC, dI)) (ci := 1) (v := .int (nI 0)) (ty := .int) (C := R_Mod) (T := F_Mod) (N := 16) hx hb hts hin_Mod t_Mod t_Mod_ok n_Mod hown hK hP hD hS 3 rfl rfl 15 (by decide) (hts _ (nw_mc 187 rfl)) (fun _ h9 => h9) rfl (by decide +kernel) rfl rfl (Nat.le_of_ble_eq_true rfl) d_Mod_remove_15 (fun H locs hP hD hS => ?_)
    replace hP : va_P (dC, dI) nw_cls [(ai, nw_ai cB 60 I), (aw, nw_ai cB 60000 X), (al, nw_ai cI 1000 Ln), (hM, .inr (1, [.ref ai, .ref aw, .ref ar, .ref al, .ref aL, .ref aD, .ref ac, .ref af, .ref ap, .ref an, .ref ax, .int (nI 0), .int (nI wn), .int (nI chn), .int (nI rn), .int (nI 0)]))] H := hP
    replace hD : va_D A [(ai, nw_ai cB 60 I), (aw, nw_ai cB 60000 X), (al, nw_ai cI 1000 Ln), (hM, .inr (1, [.ref ai, .ref aw, .ref ar, .ref al, .ref aL, .ref aD, .ref ac, .ref af, .ref ap, .ref an, .ref ax, .int (nI 0), .int (nI wn), .int (nI chn), .int (nI rn), .int (nI 0)]))] := hD
    refine lv_iload_n hx hb d_Mod_remove_18 rfl (lv_at hl 0 rfl) ?_
    refine lv_if_ne hx hb d_Mod_remove_19 (tgt := 24) (by decide) (fun q2 => ?_) (fun q2 => ?_)
    · rw [nw_eq0 (by omega)] at q2
      refine lv_aload_n hx hb d_Mod_remove_24 rfl (lv_at hl 1 rfl) ?_
      refine lv_iload_n hx hb d_Mod_remove_25 rfl (lv_at hl 0 rfl) ?_
      refine vp_callSi (va_Run.run (va_runV (As := [.int (nI isz)]) (rest := []) ⟨hx, hb, hml, hown, hts⟩ (c_Mod_standing l dC dI cB cI hM ai aw ar al aL aD ac af ap an ax 0 wn chn rn 0 I X Ln isz (by omega) (by omega) hL hX hI0) (cwV (C := R_Mod) 1 hts (nw_GV (nw_m 202 rfl) (nw_m 203 rfl) (nw_m 204 rfl) (nw_m 191 rfl) (nw_m 205 rfl)) rfl rfl rfl (by decide +kernel) ⟨Nat.le_of_ble_eq_true rfl, Nat.le_of_ble_eq_true rfl⟩) (nw_preV (q0 := 3) (ci := 1) (q := (R_Mod, F_Mod, 16)) hK hP [3, 0, 1, 2] [0, 1] rfl rfl rfl rfl) rfl rfl hl.1 rfl (lv_room (Nat.le_of_ble_eq_true rfl)) d_Mod_remove_26 ⟨Nat.le_of_ble_eq_true rfl, Nat.le_of_ble_eq_true rfl⟩)) (fun r her => ?_)
      subst her
      refine nw_ti (y := nI at0) (congrArg nI hat.symm) ?_
      refine lv_istore_n hx hb d_Mod_remove_29 rfl hl (by decide) rfl (fun ls hl => ?_)
      replace hl : lv_has ls 4 [(2, .int (nI at0)), (1, .int (nI isz)), (0, .ref hM)] := hl
      refine lv_iload_n hx hb d_Mod_remove_30 rfl (lv_at hl 0 rfl) ?_
      refine lv_aload_n hx hb d_Mod_remove_31 rfl (lv_at hl 2 rfl) ?_
      refine va_get (D := (dC, dI)) (ci := 1) (v := .int (nI wn)) (C := R_Mod) (T := F_Mod) (N := 16) hx hb hts hin_Mod hown hK hP 3 rfl rfl 12 (by decide) (hts _ (nw_mc 193 rfl)) (fun _ h9 => h9) rfl d_Mod_remove_32 ?_
      refine lv_icmp_eq hx hb d_Mod_remove_35 (tgt := 47) (by decide) (fun q3 => ?_) (fun q3 => ?_)
      · rw [nI_eq (by omega) (by omega)] at q3
        refine lv_aload_n hx hb d_Mod_remove_47 rfl (lv_at hl 2 rfl) ?_
        refine va_get (D := (dC, dI)) (ci := 1) (v := .int (nI wn)) (C := R_Mod) (T := F_Mod) (N := 16) hx hb hts hin_Mod hown hK hP 3 rfl rfl 12 (by decide) (hts _ (nw_mc 193 rfl)) (fun _ h9 => h9) rfl d_Mod_remove_48 ?_
        have hP := hP.sub (ws' := [(hM, .inr (1, [.ref ai, .ref aw, .ref ar, .ref al, .ref aL, .ref aD, .ref ac, .ref af, .ref ap, .ref an, .ref ax, .int (nI 0), .int (nI wn), .int (nI chn), .int (nI rn), .int (nI 0)])), (ai, nw_ai cB 60 I), (aw, nw_ai cB 60000 X), (al, nw_ai cI 1000 Ln)]) [3, 0, 1, 2] rfl
        have hD := hD.sub (ws' := [(hM, .inr (1, [.ref ai, .ref aw, .ref ar, .ref al, .ref aL, .ref aD, .ref ac, .ref af, .ref ap, .ref an, .ref ax, .int (nI 0), .int (nI wn), .int (nI chn), .int (nI rn), .int (nI 0)])), (ai, nw_ai cB 60 I), (aw, nw_ai cB 60000 X), (al, nw_ai cI 1000 Ln)]) [3, 0, 1, 2] (by decide) rfl
        exact W.iret (v := nI wn) hx hb hr (fun t ht hW => ⟨⟨_, (), rfl, rfl, by rw [ht]; exact hP, hD⟩, hS.F ht⟩) hS.2.2 d_Mod_remove_51
      · rw [nI_eq (by omega) (by omega)] at q3
        refine lv_aload_n hx hb d_Mod_remove_38 rfl (lv_at hl 2 rfl) ?_
        refine lv_iload_n hx hb d_Mod_remove_39 rfl (lv_at hl 0 rfl) ?_
        refine lv_iload_n hx hb d_Mod_remove_40 rfl (lv_at hl 1 rfl) ?_
        refine vp_callSi (va_Run.run (va_runV (As := [.int (nI at0), .int (nI isz)]) (rest := []) ⟨hx, hb, hml, hown, hts⟩ (c_Mod_order l dC dI cB cI hM ai aw ar al aL aD ac af ap an ax 0 wn chn rn 0 I X Ln at0 isz (by omega) (by omega) (hL _ (by omega)) hX hI0) (cwV (C := R_Mod) 2 hts (nw_GV (nw_m 194 rfl) (nw_m 195 rfl) (nw_m 196 rfl) (nw_m 191 rfl) (nw_m 197 rfl)) rfl rfl rfl (by decide +kernel) ⟨Nat.le_of_ble_eq_true rfl, Nat.le_of_ble_eq_true rfl⟩) (nw_preV (q0 := 3) (ci := 1) (q := (R_Mod, F_Mod, 16)) hK hP [3, 0, 1, 2] [0, 1] rfl rfl rfl rfl) rfl rfl hl.1 rfl (lv_room (Nat.le_of_ble_eq_true rfl)) d_Mod_remove_41 ⟨Nat.le_of_ble_eq_true rfl, Nat.le_of_ble_eq_true rfl⟩)) (fun r her => ?_)
        subst her
        refine lv_if_eq hx hb d_Mod_remove_44 (tgt := 52) (by decide) (fun q4 => ?_) (fun q4 => ?_)
        · exact absurd ⟨by omega, q4⟩ ho
        · refine lv_aload_n hx hb d_Mod_remove_47 rfl (lv_at hl 2 rfl) ?_
          refine va_get (D := (dC, dI)) (ci := 1) (v := .int (nI wn)) (C := R_Mod) (T := F_Mod) (N := 16) hx hb hts hin_Mod hown hK hP 3 rfl rfl 12 (by decide) (hts _ (nw_mc 193 rfl)) (fun _ h9 => h9) rfl d_Mod_remove_48 ?_
          have hP := hP.sub (ws' := [(hM, .inr (1, [.ref ai, .ref aw, .ref ar, .ref al, .ref aL, .ref aD, .ref ac, .ref af, .ref ap, .ref an, .ref ax, .int (nI 0), .int (nI wn), .int (nI chn), .int (nI rn), .int (nI 0)])), (ai, nw_ai cB 60 I), (aw, nw_ai cB 60000 X), (al, nw_ai cI 1000 Ln)]) [3, 0, 1, 2] rfl
          have hD := hD.sub (ws' := [(hM, .inr (1, [.ref ai, .ref aw, .ref ar, .ref al, .ref aL, .ref aD, .ref ac, .ref af, .ref ap, .ref an, .ref ax, .int (nI 0), .int (nI wn), .int (nI chn), .int (nI rn), .int (nI 0)])), (ai, nw_ai cB 60 I), (aw, nw_ai cB 60000 X), (al, nw_ai cI 1000 Ln)]) [3, 0, 1, 2] (by decide) rfl
          exact W.iret (v := nI wn) hx hb hr (fun t ht hW => ⟨⟨_, (), rfl, rfl, by rw [ht]; exact hP, hD⟩, hS.F ht⟩) hS.2.2 d_Mod_remove_51
    · rw [nw_eq0 (by omega)] at q2
      omega
  · rw [nw_eq0 (by omega)] at q1
    omega

set_option maxHeartbeats 4000000 in
set_option maxRecDepth 100000 in
theorem c_Mod_remove_yes (l : Launch) (dC : Nat → ClassId) (dI : Nat → Nat → Nat) (sz : Nat) (cB cI : ClassId) (hM ai aw ar al aL aD ac af ap an ax isz wn chn rn th : Nat) (I X Ln : Nat → Nat) (at0 : Nat) (hat : at0 = nw_cnt (fun i => nw_cm (fun k => X (i * 60 + k)) (Ln i) I isz < 0) wn) (h1 : 1 ≤ isz) (hw : wn ≤ 1000) (hn : isz ≤ 60) (hL : ∀ i, i < wn → Ln i ≤ 60) (hX : ∀ j, X j < 128) (hI0 : ∀ j, I j < 128) (ho : at0 < wn) (hc : nw_cm (fun k => X (at0 * 60 + k)) (Ln at0) I isz = 0) (hch : isz ≤ chn) : Met l y_Mod_remove w_Mod_remove ({ frames := 3, cells := 0, slots := 0, locals := 68 }) (nw_Pw [.ref hM] (dC, dI) nw_cls [(cB, .byte), (cI, .int)] [(hM, .inr (1, [.ref ai, .ref aw, .ref ar, .ref al, .ref aL, .ref aD, .ref ac, .ref af, .ref ap, .ref an, .ref ax, .int (nI isz), .int (nI wn), .int (nI chn), .int (nI rn), .int (nI th)])), (ai, nw_ai cB 60 I), (aw, nw_ai cB 60000 X), (al, nw_ai cI 1000 Ln)] sz) (va_Qi (fun (r : Int32) (u : (Nat → Nat) × (Nat → Nat)) => r = nI (wn - 1) ∧ (∀ v, v < at0 → u.2 v = Ln v ∧ ∀ k, k < Ln v → u.1 (v * 60 + k) = X (v * 60 + k)) ∧ (∀ v, at0 ≤ v → v + 1 < wn → u.2 v = Ln (v + 1) ∧ ∀ k, k < Ln (v + 1) → u.1 (v * 60 + k) = X ((v + 1) * 60 + k)) ∧ ∀ j, u.1 j < 128) (nw_B (dC, dI) nw_cls (va_A [(hM, .inr (1, [.ref ai, .ref aw, .ref ar, .ref al, .ref aL, .ref aD, .ref ac, .ref af, .ref ap, .ref an, .ref ax, .int (nI isz), .int (nI wn), .int (nI chn), .int (nI rn), .int (nI th)])), (ai, nw_ai cB 60 I), (aw, nw_ai cB 60000 X), (al, nw_ai cI 1000 Ln)] sz) (fun u => [(hM, .inr (1, [.ref ai, .ref aw, .ref ar, .ref al, .ref aL, .ref aD, .ref ac, .ref af, .ref ap, .ref an, .ref ax, .int (nI 0), .int (nI (wn - 1)), .int (nI (chn - isz)), .int (nI rn), .int (nI 0)])), (ai, nw_ai cB 60 I), (aw, nw_ai cB 60000 u.1), (al, nw_ai cI 1000 u.2)])) (va_A [(hM, .inr (1, [.ref ai, .ref aw, .ref ar, .ref al, .ref aL, .ref aD, .ref ac, .ref af, .ref ap, .ref an, .ref ax, .int (nI isz), .int (nI wn), .int (nI chn), .int (nI rn), .int (nI th)])), (ai, nw_ai cB 60 I), (aw, nw_ai cB 60000 X), (al, nw_ai cI 1000 Ln)] sz)) 0 0 (va_A [(hM, .inr (1, [.ref ai, .ref aw, .ref ar, .ref al, .ref aL, .ref aD, .ref ac, .ref af, .ref ap, .ref an, .ref ax, .int (nI isz), .int (nI wn), .int (nI chn), .int (nI rn), .int (nI th)])), (ai, nw_ai cB 60 I), (aw, nw_ai cB 60000 X), (al, nw_ai cI 1000 Ln)] sz) := by
  refine Met.ofW (cc := b_Mod_remove) (maxL := 4) (ret := (some .int)) (by decide) rfl ?_
  intro p e s m args below meth cd s₁ B hml hv0
  obtain ⟨rfl, hsz, hP, hK, hD0⟩ := hv0
  have hx := B.exec
  have hb := B.bytes
  have hr := B.returns
  have hts := atoms_spec (ws := w_Mod_remove) B.pre
  have hown : s.vm.findClass R_Mod = some m.cls := findClass_of_methodNamed B.named
  have hlocks := B.notSynchronized
  subst hsz
  have hD := hD0.self (sz := s.heap.size)
  generalize hAe : va_A [(hM, .inr (1, [.ref ai, .ref aw, .ref ar, .ref al, .ref aL, .ref aD, .ref ac, .ref af, .ref ap, .ref an, .ref ax, .int (nI isz), .int (nI wn), .int (nI chn), .int (nI rn), .int (nI th)])), (ai, nw_ai cB 60 I), (aw, nw_ai cB 60000 X), (al, nw_ai cI 1000 Ln)] s.heap.size = A at hD ⊢
  have hA : ∀ q : Nat, s.heap.size ≤ q → A q := fun q h => by rw [← hAe]; exact Or.inr h
  have hS : va_S A s.heap s.heap [] := va_S.rf
  have hl := lv_entry ([.ref hM]) (n := 4) (Nat.le_of_ble_eq_true rfl)
  rw [lg_entry_eq]
  generalize (lg_sl ([.ref hM]) ++ List.replicate (4 - (lg_sl ([.ref hM])).length) Slot.unset).toArray = ls at hl ⊢
  have hl : lv_has ls 4 [(0, .ref hM)] := hl
  have hat1 := nw_cnt_le (fun i => nw_cm (fun k => X (i * 60 + k)) (Ln i) I isz < 0) wn
  refine lv_aload_n hx hb d_Mod_remove_0 rfl (lv_at hl 0 rfl) ?_
  refine nw_calli (wc := [(hM, .inr (1, [.ref ai, .ref aw, .ref ar, .ref al, .ref aL, .ref aD, .ref ac, .ref af, .ref ap, .ref an, .ref ax, .int (nI isz), .int (nI wn), .int (nI chn), .int (nI rn), .int (nI th)]))]) (wr := [(ai, nw_ai cB 60 I), (aw, nw_ai cB 60000 X), (al, nw_ai cI 1000 Ln)]) hP hD hS hA [0] [1, 2, 3] rfl rfl (by decide) (by decide) (va_runV (As := []) (rest := []) ⟨hx, hb, hml, hown, hts⟩ (c_Mod_take l dC dI _ hM ai aw ar al aL aD ac af ap an ax isz wn chn rn th) (cwV (C := R_Mod) 0 hts (nw_GV (nw_m 198 rfl) (nw_m 199 rfl) (nw_m 200 rfl) (nw_m 191 rfl) (nw_m 201 rfl)) rfl rfl rfl (by decide +kernel) ⟨Nat.le_of_ble_eq_true rfl, Nat.le_of_ble_eq_true rfl⟩) (nw_prewV (q0 := 0) (ci := 1) (q := (R_Mod, F_Mod, 16)) hK hP hD [0] [] (by decide) rfl rfl rfl rfl) rfl rfl hl.1 rfl (lv_room (Nat.le_of_ble_eq_true rfl)) d_Mod_remove_1 ⟨Nat.le_of_ble_eq_true rfl, Nat.le_of_ble_eq_true rfl⟩) (fun r _ H locs hw hP hD hS => ?_)
  replace hP : va_P (dC, dI) nw_cls [(ai, nw_ai cB 60 I), (aw, nw_ai cB 60000 X), (al, nw_ai cI 1000 Ln), (hM, .inr (1, [.ref ai, .ref aw, .ref ar, .ref al, .ref aL, .ref aD, .ref ac, .ref af, .ref ap, .ref an, .ref ax, .int (nI 0), .int (nI wn), .int (nI chn), .int (nI rn), .int (nI th)]))] H := hP
  replace hD : va_D A [(ai, nw_ai cB 60 I), (aw, nw_ai cB 60000 X), (al, nw_ai cI 1000 Ln), (hM, .inr (1, [.ref ai, .ref aw, .ref ar, .ref al, .ref aL, .ref aD, .ref ac, .ref af, .ref ap, .ref an, .ref ax, .int (nI 0), .int (nI wn), .int (nI chn), .int (nI rn), .int (nI th)]))] := hD
  obtain rfl : r = nI isz := hw
  refine lv_istore_n hx hb d_Mod_remove_4 rfl hl (by decide) rfl (fun ls hl => ?_)
  replace hl : lv_has ls 4 [(1, .int (nI isz)), (0, .ref hM)] := hl
  refine lv_aload_n hx hb d_Mod_remove_5 rfl (lv_at hl 1 rfl) ?_
  refine lv_iload_n hx hb d_Mod_remove_6 rfl (lv_at hl 0 rfl) ?_
  refine lv_if_ne hx hb d_Mod_remove_7 (tgt := 14) (by decide) (fun q1 => ?_) (fun q1 => ?_)
  · rw [nw_eq0 (by omega)] at q1
    refine lv_iconst (v := nI 0) hx hb d_Mod_remove_14 (by decide) ?_
    refine va_put (D := (dC, dI)) (ci := 1) (v := .int (nI 0)) (ty := .int) (C := R_Mod) (T := F_Mod) (N := 16) hx hb hts hin_Mod t_Mod t_Mod_ok n_Mod hown hK hP hD hS 3 rfl rfl 15 (by decide) (hts _ (nw_mc 187 rfl)) (fun _ h9 => h9) rfl (by decide +kernel) rfl rfl (Nat.le_of_ble_eq_true rfl) d_Mod_remove_15 (fun H locs hP hD hS => ?_)
    replace hP : va_P (dC, dI) nw_cls [(ai, nw_ai cB 60 I), (aw, nw_ai cB 60000 X), (al, nw_ai cI 1000 Ln), (hM, .inr (1, [.ref ai, .ref aw, .ref ar, .ref al, .ref aL, .ref aD, .ref ac, .ref af, .ref ap, .ref an, .ref ax, .int (nI 0), .int (nI wn), .int (nI chn), .int (nI rn), .int (nI 0)]))] H := hP
    replace hD : va_D A [(ai, nw_ai cB 60 I), (aw, nw_ai cB 60000 X), (al, nw_ai cI 1000 Ln), (hM, .inr (1, [.ref ai, .ref aw, .ref ar, .ref al, .ref aL, .ref aD, .ref ac, .ref af, .ref ap, .ref an, .ref ax, .int (nI 0), .int (nI wn), .int (nI chn), .int (nI rn), .int (nI 0)]))] := hD
    refine lv_iload_n hx hb d_Mod_remove_18 rfl (lv_at hl 0 rfl) ?_
    refine lv_if_ne hx hb d_Mod_remove_19 (tgt := 24) (by decide) (fun q2 => ?_) (fun q2 => ?_)
    · rw [nw_eq0 (by omega)] at q2
      refine lv_aload_n hx hb d_Mod_remove_24 rfl (lv_at hl 1 rfl) ?_
      refine lv_iload_n hx hb d_Mod_remove_25 rfl (lv_at hl 0 rfl) ?_
      refine vp_callSi (va_Run.run (va_runV (As := [.int (nI isz)]) (rest := []) ⟨hx, hb, hml, hown, hts⟩ (c_Mod_standing l dC dI cB cI hM ai aw ar al aL aD ac af ap an ax 0 wn chn rn 0 I X Ln isz (by omega) (by omega) hL hX hI0) (cwV (C := R_Mod) 1 hts (nw_GV (nw_m 202 rfl) (nw_m 203 rfl) (nw_m 204 rfl) (nw_m 191 rfl) (nw_m 205 rfl)) rfl rfl rfl (by decide +kernel) ⟨Nat.le_of_ble_eq_true rfl, Nat.le_of_ble_eq_true rfl⟩) (nw_preV (q0 := 3) (ci := 1) (q := (R_Mod, F_Mod, 16)) hK hP [3, 0, 1, 2] [0, 1] rfl rfl rfl rfl) rfl rfl hl.1 rfl (lv_room (Nat.le_of_ble_eq_true rfl)) d_Mod_remove_26 ⟨Nat.le_of_ble_eq_true rfl, Nat.le_of_ble_eq_true rfl⟩)) (fun r her => ?_)
      subst her
      refine nw_ti (y := nI at0) (congrArg nI hat.symm) ?_
      refine lv_istore_n hx hb d_Mod_remove_29 rfl hl (by decide) rfl (fun ls hl => ?_)
      replace hl : lv_has ls 4 [(2, .int (nI at0)), (1, .int (nI isz)), (0, .ref hM)] := hl
      refine lv_iload_n hx hb d_Mod_remove_30 rfl (lv_at hl 0 rfl) ?_
      refine lv_aload_n hx hb d_Mod_remove_31 rfl (lv_at hl 2 rfl) ?_
      refine va_get (D := (dC, dI)) (ci := 1) (v := .int (nI wn)) (C := R_Mod) (T := F_Mod) (N := 16) hx hb hts hin_Mod hown hK hP 3 rfl rfl 12 (by decide) (hts _ (nw_mc 193 rfl)) (fun _ h9 => h9) rfl d_Mod_remove_32 ?_
      refine lv_icmp_eq hx hb d_Mod_remove_35 (tgt := 47) (by decide) (fun q3 => ?_) (fun q3 => ?_)
      · rw [nI_eq (by omega) (by omega)] at q3
        omega
      · rw [nI_eq (by omega) (by omega)] at q3
        refine lv_aload_n hx hb d_Mod_remove_38 rfl (lv_at hl 2 rfl) ?_
        refine lv_iload_n hx hb d_Mod_remove_39 rfl (lv_at hl 0 rfl) ?_
        refine lv_iload_n hx hb d_Mod_remove_40 rfl (lv_at hl 1 rfl) ?_
        refine vp_callSi (va_Run.run (va_runV (As := [.int (nI at0), .int (nI isz)]) (rest := []) ⟨hx, hb, hml, hown, hts⟩ (c_Mod_order l dC dI cB cI hM ai aw ar al aL aD ac af ap an ax 0 wn chn rn 0 I X Ln at0 isz (by omega) (by omega) (hL _ (by omega)) hX hI0) (cwV (C := R_Mod) 2 hts (nw_GV (nw_m 194 rfl) (nw_m 195 rfl) (nw_m 196 rfl) (nw_m 191 rfl) (nw_m 197 rfl)) rfl rfl rfl (by decide +kernel) ⟨Nat.le_of_ble_eq_true rfl, Nat.le_of_ble_eq_true rfl⟩) (nw_preV (q0 := 3) (ci := 1) (q := (R_Mod, F_Mod, 16)) hK hP [3, 0, 1, 2] [0, 1] rfl rfl rfl rfl) rfl rfl hl.1 rfl (lv_room (Nat.le_of_ble_eq_true rfl)) d_Mod_remove_41 ⟨Nat.le_of_ble_eq_true rfl, Nat.le_of_ble_eq_true rfl⟩)) (fun r her => ?_)
        subst her
        refine lv_if_eq hx hb d_Mod_remove_44 (tgt := 52) (by decide) (fun q4 => ?_) (fun q4 => ?_)
        · refine lv_iload_n hx hb d_Mod_remove_52 rfl (lv_at hl 0 rfl) ?_
          refine lv_istore_n hx hb d_Mod_remove_53 rfl hl (by decide) rfl (fun ls hl => ?_)
          replace hl : lv_has ls 4 [(3, .int (nI at0)), (2, .int (nI at0)), (1, .int (nI isz)), (0, .ref hM)] := hl
          have hP := hP.sub (ws' := [(hM, .inr (1, [.ref ai, .ref aw, .ref ar, .ref al, .ref aL, .ref aD, .ref ac, .ref af, .ref ap, .ref an, .ref ax, .int (nI 0), .int (nI wn), .int (nI chn), .int (nI rn), .int (nI 0)])), (ai, nw_ai cB 60 I), (aw, nw_ai cB 60000 X), (al, nw_ai cI 1000 Ln)]) [3, 0, 1, 2] rfl
          have hD := hD.sub (ws' := [(hM, .inr (1, [.ref ai, .ref aw, .ref ar, .ref al, .ref aL, .ref aD, .ref ac, .ref af, .ref ap, .ref an, .ref ax, .int (nI 0), .int (nI wn), .int (nI chn), .int (nI rn), .int (nI 0)])), (ai, nw_ai cB 60 I), (aw, nw_ai cB 60000 X), (al, nw_ai cI 1000 Ln)]) [3, 0, 1, 2] (by decide) rfl
          refine nw_loopW (σ := Nat × (Nat → Nat) × (Nat → Nat)) (fun x => match x with | (w, f, g) => at0 ≤ w ∧ w < wn ∧ (∀ v, v < at0 → g v = Ln v ∧ ∀ k, k < Ln v → f (v * 60 + k) = X (v * 60 + k)) ∧ (∀ v, at0 ≤ v → v < w → g v = Ln (v + 1) ∧ ∀ k, k < Ln (v + 1) → f (v * 60 + k) = X ((v + 1) * 60 + k)) ∧ (∀ v, w < v → v < wn → g v = Ln v ∧ ∀ k, k < Ln v → f (v * 60 + k) = X (v * 60 + k)) ∧ ∀ j, f j < 128) (fun x => match x with | (w, f, g) => [(3, .int (nI w)), (2, .int (nI at0)), (1, .int (nI isz)), (0, .ref hM)]) (fun x => match x with | (w, f, g) => [(hM, .inr (1, [.ref ai, .ref aw, .ref ar, .ref al, .ref aL, .ref aD, .ref ac, .ref af, .ref ap, .ref an, .ref ax, .int (nI 0), .int (nI wn), .int (nI chn), .int (nI rn), .int (nI 0)])), (ai, nw_ai cB 60 I), (aw, nw_ai cB 60000 f), (al, nw_ai cI 1000 g)]) (fun x => match x with | (w, f, g) => wn - w) (fun x hA1 ih1 ls H locs hl hP hD hS => ?_) (at0, X, Ln) (⟨Nat.le_refl _, ho, fun v _ => ⟨rfl, fun k _ => rfl⟩, fun v h1 h2 => by omega, fun v _ _ => ⟨rfl, fun k _ => rfl⟩, hX⟩) hl hP hD hS
          obtain ⟨w, f, g⟩ := x
          replace hA1 : at0 ≤ w ∧ w < wn ∧ (∀ v, v < at0 → g v = Ln v ∧ ∀ k, k < Ln v → f (v * 60 + k) = X (v * 60 + k)) ∧ (∀ v, at0 ≤ v → v < w → g v = Ln (v + 1) ∧ ∀ k, k < Ln (v + 1) → f (v * 60 + k) = X ((v + 1) * 60 + k)) ∧ (∀ v, w < v → v < wn → g v = Ln v ∧ ∀ k, k < Ln v → f (v * 60 + k) = X (v * 60 + k)) ∧ ∀ j, f j < 128 := hA1
          replace hl : lv_has ls 4 [(3, .int (nI w)), (2, .int (nI at0)), (1, .int (nI isz)), (0, .ref hM)] := hl
          replace hP : va_P (dC, dI) nw_cls [(hM, .inr (1, [.ref ai, .ref aw, .ref ar, .ref al, .ref aL, .ref aD, .ref ac, .ref af, .ref ap, .ref an, .ref ax, .int (nI 0), .int (nI wn), .int (nI chn), .int (nI rn), .int (nI 0)])), (ai, nw_ai cB 60 I), (aw, nw_ai cB 60000 f), (al, nw_ai cI 1000 g)] H := hP
          replace hD : va_D A [(hM, .inr (1, [.ref ai, .ref aw, .ref ar, .ref al, .ref aL, .ref aD, .ref ac, .ref af, .ref ap, .ref an, .ref ax, .int (nI 0), .int (nI wn), .int (nI chn), .int (nI rn), .int (nI 0)])), (ai, nw_ai cB 60 I), (aw, nw_ai cB 60000 f), (al, nw_ai cI 1000 g)] := hD
          obtain ⟨hw1, hw3, hlo, hmi, hhi, hf⟩ := hA1
          refine lv_iload_n hx hb d_Mod_remove_54 rfl (lv_at hl 0 rfl) ?_
          refine lv_iconst (v := nI 1) hx hb d_Mod_remove_55 (by decide) ?_
          refine lv_iadd hx hb d_Mod_remove_56 ?_
          refine nw_ti (nI_add w 1) ?_
          refine lv_aload_n hx hb d_Mod_remove_57 rfl (lv_at hl 3 rfl) ?_
          refine va_get (D := (dC, dI)) (ci := 1) (v := .int (nI wn)) (C := R_Mod) (T := F_Mod) (N := 16) hx hb hts hin_Mod hown hK hP 0 rfl rfl 12 (by decide) (hts _ (nw_mc 193 rfl)) (fun _ h9 => h9) rfl d_Mod_remove_58 ?_
          refine lv_icmp_ge hx hb d_Mod_remove_61 (tgt := 86) (by decide) (fun q7 => ?_) (fun q7 => ?_)
          · rw [nI_leI (by omega) (by omega)] at q7
            refine lv_aload_n hx hb d_Mod_remove_86 rfl (lv_at hl 3 rfl) ?_
            refine lv_dup hx hb d_Mod_remove_87 rfl ?_
            refine va_get (D := (dC, dI)) (ci := 1) (v := .int (nI wn)) (C := R_Mod) (T := F_Mod) (N := 16) hx hb hts hin_Mod hown hK hP 0 rfl rfl 12 (by decide) (hts _ (nw_mc 193 rfl)) (fun _ h9 => h9) rfl d_Mod_remove_88 ?_
            refine lv_iconst (v := nI 1) hx hb d_Mod_remove_91 (by decide) ?_
            refine lv_isub hx hb d_Mod_remove_92 ?_
            refine nw_ti (pk_sub (a := wn) (b := 1) (by omega)) ?_
            refine va_put (D := (dC, dI)) (ci := 1) (v := .int (nI (wn - 1))) (ty := .int) (C := R_Mod) (T := F_Mod) (N := 16) hx hb hts hin_Mod t_Mod t_Mod_ok n_Mod hown hK hP hD hS 0 rfl rfl 12 (by decide) (hts _ (nw_mc 193 rfl)) (fun _ h9 => h9) rfl (by decide +kernel) rfl rfl (Nat.le_of_ble_eq_true rfl) d_Mod_remove_93 (fun H locs hP hD hS => ?_)
            replace hP : va_P (dC, dI) nw_cls [(hM, .inr (1, [.ref ai, .ref aw, .ref ar, .ref al, .ref aL, .ref aD, .ref ac, .ref af, .ref ap, .ref an, .ref ax, .int (nI 0), .int (nI (wn - 1)), .int (nI chn), .int (nI rn), .int (nI 0)])), (ai, nw_ai cB 60 I), (aw, nw_ai cB 60000 f), (al, nw_ai cI 1000 g)] H := hP
            replace hD : va_D A [(hM, .inr (1, [.ref ai, .ref aw, .ref ar, .ref al, .ref aL, .ref aD, .ref ac, .ref af, .ref ap, .ref an, .ref ax, .int (nI 0), .int (nI (wn - 1)), .int (nI chn), .int (nI rn), .int (nI 0)])), (ai, nw_ai cB 60 I), (aw, nw_ai cB 60000 f), (al, nw_ai cI 1000 g)] := hD
            refine lv_aload_n hx hb d_Mod_remove_96 rfl (lv_at hl 3 rfl) ?_
            refine lv_dup hx hb d_Mod_remove_97 rfl ?_
            refine va_get (D := (dC, dI)) (ci := 1) (v := .int (nI chn)) (C := R_Mod) (T := F_Mod) (N := 16) hx hb hts hin_Mod hown hK hP 0 rfl rfl 13 (by decide) (hts _ (nw_mc 206 rfl)) (fun _ h9 => h9) rfl d_Mod_remove_98 ?_
            refine lv_iload_n hx hb d_Mod_remove_101 rfl (lv_at hl 2 rfl) ?_
            refine lv_isub hx hb d_Mod_remove_102 ?_
            refine nw_ti (pk_sub (a := chn) (b := isz) (by omega)) ?_
            refine va_put (D := (dC, dI)) (ci := 1) (v := .int (nI (chn - isz))) (ty := .int) (C := R_Mod) (T := F_Mod) (N := 16) hx hb hts hin_Mod t_Mod t_Mod_ok n_Mod hown hK hP hD hS 0 rfl rfl 13 (by decide) (hts _ (nw_mc 206 rfl)) (fun _ h9 => h9) rfl (by decide +kernel) rfl rfl (Nat.le_of_ble_eq_true rfl) d_Mod_remove_103 (fun H locs hP hD hS => ?_)
            replace hP : va_P (dC, dI) nw_cls [(hM, .inr (1, [.ref ai, .ref aw, .ref ar, .ref al, .ref aL, .ref aD, .ref ac, .ref af, .ref ap, .ref an, .ref ax, .int (nI 0), .int (nI (wn - 1)), .int (nI (chn - isz)), .int (nI rn), .int (nI 0)])), (ai, nw_ai cB 60 I), (aw, nw_ai cB 60000 f), (al, nw_ai cI 1000 g)] H := hP
            replace hD : va_D A [(hM, .inr (1, [.ref ai, .ref aw, .ref ar, .ref al, .ref aL, .ref aD, .ref ac, .ref af, .ref ap, .ref an, .ref ax, .int (nI 0), .int (nI (wn - 1)), .int (nI (chn - isz)), .int (nI rn), .int (nI 0)])), (ai, nw_ai cB 60 I), (aw, nw_ai cB 60000 f), (al, nw_ai cI 1000 g)] := hD
            refine lv_aload_n hx hb d_Mod_remove_106 rfl (lv_at hl 3 rfl) ?_
            refine va_get (D := (dC, dI)) (ci := 1) (v := .int (nI (wn - 1))) (C := R_Mod) (T := F_Mod) (N := 16) hx hb hts hin_Mod hown hK hP 0 rfl rfl 12 (by decide) (hts _ (nw_mc 193 rfl)) (fun _ h9 => h9) rfl d_Mod_remove_107 ?_
            exact W.iret (v := nI (wn - 1)) hx hb hr (fun t ht hW => ⟨⟨_, (f, g), rfl, ⟨rfl, hlo, fun v h1 h2 => hmi v h1 (by omega), hf⟩, by rw [ht]; exact hP, hD⟩, hS.F ht⟩) hS.2.2 d_Mod_remove_110
          · rw [nI_leI (by omega) (by omega)] at q7
            have hg1 := (hhi (w + 1) (by omega) (by omega)).1
            have hl1 := hL (w + 1) (by omega)
            refine lv_aload_n hx hb d_Mod_remove_64 rfl (lv_at hl 3 rfl) ?_
            refine lv_iload_n hx hb d_Mod_remove_65 rfl (lv_at hl 0 rfl) ?_
            refine lv_iconst (v := nI 1) hx hb d_Mod_remove_66 (by decide) ?_
            refine lv_iadd hx hb d_Mod_remove_67 ?_
            refine nw_ti (nI_add w 1) ?_
            refine lv_iload_n hx hb d_Mod_remove_68 rfl (lv_at hl 0 rfl) ?_
            refine lv_aload_n hx hb d_Mod_remove_69 rfl (lv_at hl 3 rfl) ?_
            refine va_get (D := (dC, dI)) (ci := 1) (v := .ref al) (C := R_Mod) (T := F_Mod) (N := 16) hx hb hts hin_Mod hown hK hP 0 rfl rfl 3 (by decide) (hts _ (nw_mc 178 rfl)) (fun _ h9 => h9) rfl d_Mod_remove_70 ?_
            refine lv_iload_n hx hb d_Mod_remove_73 rfl (lv_at hl 0 rfl) ?_
            refine lv_iconst (v := nI 1) hx hb d_Mod_remove_74 (by decide) ?_
            refine lv_iadd hx hb d_Mod_remove_75 ?_
            refine nw_ti (nI_add w 1) ?_
            refine nw_iald hx hb hK hP 3 1 rfl rfl (k := (w + 1)) (by omega) (by first | decide | omega) d_Mod_remove_76 ?_
            refine nw_callv (wc := [(hM, .inr (1, [.ref ai, .ref aw, .ref ar, .ref al, .ref aL, .ref aD, .ref ac, .ref af, .ref ap, .ref an, .ref ax, .int (nI 0), .int (nI wn), .int (nI chn), .int (nI rn), .int (nI 0)])), (aw, nw_ai cB 60000 f), (al, nw_ai cI 1000 g)]) (wr := [(ai, nw_ai cB 60 I)]) hP hD hS hA [0, 2, 3] [1] rfl rfl (by decide) (by decide) (va_runV (As := [.int (nI (w + 1)), .int (nI w), .int (nI (g (w + 1)))]) (rest := []) ⟨hx, hb, hml, hown, hts⟩ (c_Mod_shift l dC dI _ cB cI hM ai aw ar al aL aD ac af ap an ax 0 wn chn rn 0 f g (w + 1) w (g (w + 1)) (by omega) (by omega) (by omega) (by omega) hf) (cwV (C := R_Mod) 3 hts (nw_GV (nw_m 207 rfl) (nw_m 208 rfl) (nw_m 209 rfl) (nw_m 191 rfl) (nw_m 210 rfl)) rfl rfl rfl (by decide +kernel) ⟨Nat.le_of_ble_eq_true rfl, Nat.le_of_ble_eq_true rfl⟩) (nw_prewV (q0 := 0) (ci := 1) (q := (R_Mod, F_Mod, 16)) hK hP hD [0, 2, 3] [0, 1] (by decide) rfl rfl rfl rfl) rfl rfl hl.1 rfl (lv_room (Nat.le_of_ble_eq_true rfl)) d_Mod_remove_77 ⟨Nat.le_of_ble_eq_true rfl, Nat.le_of_ble_eq_true rfl⟩) (fun _ H locs hw hP hD hS => ?_)
            replace hP : va_P (dC, dI) nw_cls [(ai, nw_ai cB 60 I), (hM, .inr (1, [.ref ai, .ref aw, .ref ar, .ref al, .ref aL, .ref aD, .ref ac, .ref af, .ref ap, .ref an, .ref ax, .int (nI 0), .int (nI wn), .int (nI chn), .int (nI rn), .int (nI 0)])), (aw, nw_ai cB 60000 (va_cpy f f ((w + 1) * 60) (w * 60) (g (w + 1)))), (al, nw_ai cI 1000 (va_up g w (g (w + 1))))] H := hP
            replace hD : va_D A [(ai, nw_ai cB 60 I), (hM, .inr (1, [.ref ai, .ref aw, .ref ar, .ref al, .ref aL, .ref aD, .ref ac, .ref af, .ref ap, .ref an, .ref ax, .int (nI 0), .int (nI wn), .int (nI chn), .int (nI rn), .int (nI 0)])), (aw, nw_ai cB 60000 (va_cpy f f ((w + 1) * 60) (w * 60) (g (w + 1)))), (al, nw_ai cI 1000 (va_up g w (g (w + 1))))] := hD
            refine lv_iinc (v := nI (w + 1)) hx hb d_Mod_remove_80 hl (k := 0) rfl (nI_add w 1) (by decide) rfl (fun ls hl => ?_)
            have hl : lv_has ls 4 [(3, .int (nI (w + 1))), (2, .int (nI at0)), (1, .int (nI isz)), (0, .ref hM)] := hl
            refine lv_goto hx hb d_Mod_remove_83 (tgt := 54) (by decide) ?_
            exact ih1 (w + 1, va_cpy f f ((w + 1) * 60) (w * 60) (g (w + 1)), va_up g w (g (w + 1))) (⟨by omega, by omega, fun v hv => ⟨(va_up_ne g _ (by omega)).trans (hlo v hv).1, fun k hk => by
              have := hL v (by omega)
              rw [pk_cpy_out (by omega)]; exact (hlo v hv).2 k hk⟩, fun v h1 h2 => by
              have hl2 := hL (v + 1) (by omega)
              by_cases e : v = w
              · refine ⟨by rw [e, va_up_self]; exact hg1, fun k hk => ?_⟩
                rw [e] at hk ⊢
                rw [pk_cpy_in (by omega) (by omega), show (w + 1) * 60 + (w * 60 + k - w * 60) = (w + 1) * 60 + k by omega]
                exact (hhi (w + 1) (by omega) (by omega)).2 k hk
              · refine ⟨(va_up_ne g _ e).trans (hmi v h1 (by omega)).1, fun k hk => ?_⟩
                rw [pk_cpy_out (by omega)]; exact (hmi v h1 (by omega)).2 k hk, fun v h1 h2 => ⟨(va_up_ne g _ (by omega)).trans (hhi v (by omega) h2).1, fun k hk => by
              rw [pk_cpy_out (by omega)]; exact (hhi v (by omega) h2).2 k hk⟩, fun j => by
              by_cases e : w * 60 ≤ j ∧ j < w * 60 + g (w + 1)
              · rw [pk_cpy_in e.1 e.2]; exact hf _
              · rw [pk_cpy_out (by omega)]; exact hf _⟩) (show wn - (w + 1) < wn - w by omega) _ _ _ hl (hP.sub [1, 0, 2, 3] rfl) (hD.sub [1, 0, 2, 3] (by decide) rfl) hS
        · exact absurd hc q4
    · rw [nw_eq0 (by omega)] at q2
      omega
  · rw [nw_eq0 (by omega)] at q1
    omega
