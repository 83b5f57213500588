set_option maxHeartbeats 4000000 in
set_option maxRecDepth 100000 in
theorem c_Mod_near_bad (l : Launch) (dC : Nat → ClassId) (dI : Nat → Nat → Nat) (sz : Nat) (hM ai aw ar al aL aD ac af ap an ax isz wn chn rn th : Nat) (q : Int32) (hn : isz ≤ 60) (hb0 : q < 0 ∨ nI 3 < q ∨ isz = 0) : Met l y_Mod_near w_Mod_near ({ frames := 1, cells := 0, slots := 0, locals := 21 }) (nw_Pw [.ref hM, .int q] (dC, dI) nw_cls [] [(hM, .inr (1, [.ref ai, .ref aw, .ref ar, .ref al, .ref aL, .ref aD, .ref ac, .ref af, .ref ap, .ref an, .ref ax, .int (nI isz), .int (nI wn), .int (nI chn), .int (nI rn), .int (nI th)]))] sz) (va_Qi (fun (r : Int32) (_ : Unit) => r = nI 0) (nw_B (dC, dI) nw_cls (va_A [(hM, .inr (1, [.ref ai, .ref aw, .ref ar, .ref al, .ref aL, .ref aD, .ref ac, .ref af, .ref ap, .ref an, .ref ax, .int (nI isz), .int (nI wn), .int (nI chn), .int (nI rn), .int (nI th)]))] sz) (fun _ : Unit => [(hM, .inr (1, [.ref ai, .ref aw, .ref ar, .ref al, .ref aL, .ref aD, .ref ac, .ref af, .ref ap, .ref an, .ref ax, .int (nI 0), .int (nI wn), .int (nI chn), .int (nI rn), .int (nI 1)]))])) (va_A [(hM, .inr (1, [.ref ai, .ref aw, .ref ar, .ref al, .ref aL, .ref aD, .ref ac, .ref af, .ref ap, .ref an, .ref ax, .int (nI isz), .int (nI wn), .int (nI chn), .int (nI rn), .int (nI th)]))] sz)) 0 0 (va_A [(hM, .inr (1, [.ref ai, .ref aw, .ref ar, .ref al, .ref aL, .ref aD, .ref ac, .ref af, .ref ap, .ref an, .ref ax, .int (nI isz), .int (nI wn), .int (nI chn), .int (nI rn), .int (nI th)]))] sz) := by
  refine Met.ofW (cc := b_Mod_near) (maxL := 6) (ret := (some .int)) (by decide) rfl ?_
  intro p e s m args below meth cd s₁ B hml hv0
  obtain ⟨rfl, hsz, hP, hK, hD0⟩ := hv0
  have hx := B.exec
  have hb := B.bytes
  have hr := B.returns
  have hts := atoms_spec (ws := w_Mod_near) B.pre
  have hown : s.vm.findClass R_Mod = some m.cls := findClass_of_methodNamed B.named
  have hlocks := B.notSynchronized
  subst hsz
  have hD := hD0.self (sz := s.heap.size)
  generalize hAe : va_A [(hM, .inr (1, [.ref ai, .ref aw, .ref ar, .ref al, .ref aL, .ref aD, .ref ac, .ref af, .ref ap, .ref an, .ref ax, .int (nI isz), .int (nI wn), .int (nI chn), .int (nI rn), .int (nI th)]))] s.heap.size = A at hD ⊢
  have hA : ∀ q : Nat, s.heap.size ≤ q → A q := fun q h => by rw [← hAe]; exact Or.inr h
  have hS : va_S A s.heap s.heap [] := va_S.rf
  have hl := lv_entry ([.ref hM, .int q]) (n := 6) (Nat.le_of_ble_eq_true rfl)
  rw [lg_entry_eq]
  generalize (lg_sl ([.ref hM, .int q]) ++ List.replicate (6 - (lg_sl ([.ref hM, .int q])).length) Slot.unset).toArray = ls at hl ⊢
  have hl : lv_has ls 6 [(0, .ref hM), (1, .int q)] := hl
  refine lv_aload_n hx hb d_Mod_near_0 rfl (lv_at hl 0 rfl) ?_
  refine nw_calli (wc := [(hM, .inr (1, [.ref ai, .ref aw, .ref ar, .ref al, .ref aL, .ref aD, .ref ac, .ref af, .ref ap, .ref an, .ref ax, .int (nI isz), .int (nI wn), .int (nI chn), .int (nI rn), .int (nI th)]))]) (wr := []) hP hD hS hA [0] [] rfl rfl (by decide) (by decide) (va_runV (As := []) (rest := []) ⟨hx, hb, hml, hown, hts⟩ (c_Mod_take l dC dI _ hM ai aw ar al aL aD ac af ap an ax isz wn chn rn th) (cwV (C := R_Mod) 0 hts (nw_GV (nw_m 198 rfl) (nw_m 199 rfl) (nw_m 200 rfl) (nw_m 191 rfl) (nw_m 201 rfl)) rfl rfl rfl (by decide +kernel) ⟨Nat.le_of_ble_eq_true rfl, Nat.le_of_ble_eq_true rfl⟩) (nw_prewV (q0 := 0) (ci := 1) (q := (R_Mod, F_Mod, 16)) hK hP hD [0] [] (by decide) rfl rfl rfl rfl) rfl rfl hl.1 rfl (lv_room (Nat.le_of_ble_eq_true rfl)) d_Mod_near_1 ⟨Nat.le_of_ble_eq_true rfl, Nat.le_of_ble_eq_true rfl⟩) (fun r _ H locs hw hP hD hS => ?_)
  replace hP : va_P (dC, dI) nw_cls [(hM, .inr (1, [.ref ai, .ref aw, .ref ar, .ref al, .ref aL, .ref aD, .ref ac, .ref af, .ref ap, .ref an, .ref ax, .int (nI 0), .int (nI wn), .int (nI chn), .int (nI rn), .int (nI th)]))] H := hP
  replace hD : va_D A [(hM, .inr (1, [.ref ai, .ref aw, .ref ar, .ref al, .ref aL, .ref aD, .ref ac, .ref af, .ref ap, .ref an, .ref ax, .int (nI 0), .int (nI wn), .int (nI chn), .int (nI rn), .int (nI th)]))] := hD
  obtain rfl : r = nI isz := hw
  refine lv_istore_n hx hb d_Mod_near_4 rfl hl (by decide) rfl (fun ls hl => ?_)
  replace hl : lv_has ls 6 [(2, .int (nI isz)), (0, .ref hM), (1, .int q)] := hl
  refine lv_aload_n hx hb d_Mod_near_5 rfl (lv_at hl 1 rfl) ?_
  refine lv_iload_n hx hb d_Mod_near_6 rfl (lv_at hl 2 rfl) ?_
  refine lv_if_lt hx hb d_Mod_near_7 (tgt := 19) (by decide) (fun q1 => ?_) (fun q1 => ?_)
  · refine lv_iconst (v := nI 1) hx hb d_Mod_near_19 (by decide) ?_
    refine lv_goto hx hb d_Mod_near_20 (tgt := 24) (by decide) ?_
    refine va_put (D := (dC, dI)) (ci := 1) (v := .int (nI 1)) (ty := .int) (C := R_Mod) (T := F_Mod) (N := 16) hx hb hts hin_Mod t_Mod t_Mod_ok n_Mod hown hK hP hD hS 0 rfl rfl 15 (by decide) (hts _ (nw_mc 187 rfl)) (fun _ h9 => h9) rfl (by decide +kernel) rfl rfl (Nat.le_of_ble_eq_true rfl) d_Mod_near_24 (fun H locs hP hD hS => ?_)
    replace hP : va_P (dC, dI) nw_cls [(hM, .inr (1, [.ref ai, .ref aw, .ref ar, .ref al, .ref aL, .ref aD, .ref ac, .ref af, .ref ap, .ref an, .ref ax, .int (nI 0), .int (nI wn), .int (nI chn), .int (nI rn), .int (nI 1)]))] H := hP
    replace hD : va_D A [(hM, .inr (1, [.ref ai, .ref aw, .ref ar, .ref al, .ref aL, .ref aD, .ref ac, .ref af, .ref ap, .ref an, .ref ax, .int (nI 0), .int (nI wn), .int (nI chn), .int (nI rn), .int (nI 1)]))] := hD
    refine lv_aload_n hx hb d_Mod_near_27 rfl (lv_at hl 1 rfl) ?_
    refine va_get (D := (dC, dI)) (ci := 1) (v := .int (nI 1)) (C := R_Mod) (T := F_Mod) (N := 16) hx hb hts hin_Mod hown hK hP 0 rfl rfl 15 (by decide) (hts _ (nw_mc 187 rfl)) (fun _ h9 => h9) rfl d_Mod_near_28 ?_
    refine lv_if_eq hx hb d_Mod_near_31 (tgt := 36) (by decide) (fun hz => ?_) (fun hz => ?_)
    · rw [nw_eq0 (by omega)] at hz
      omega
    · refine lv_iconst (v := nI 0) hx hb d_Mod_near_34 (by decide) ?_
      exact W.iret (v := nI 0) hx hb hr (fun t ht hW => ⟨⟨_, (), rfl, rfl, by rw [ht]; exact hP, hD⟩, hS.F ht⟩) hS.2.2 d_Mod_near_35
  · refine lv_iload_n hx hb d_Mod_near_10 rfl (lv_at hl 2 rfl) ?_
    refine lv_iconst (v := nI 3) hx hb d_Mod_near_11 (by decide) ?_
    refine lv_icmp_gt hx hb d_Mod_near_12 (tgt := 19) (by decide) (fun q2 => ?_) (fun q2 => ?_)
    · refine lv_iconst (v := nI 1) hx hb d_Mod_near_19 (by decide) ?_
      refine lv_goto hx hb d_Mod_near_20 (tgt := 24) (by decide) ?_
      refine va_put (D := (dC, dI)) (ci := 1) (v := .int (nI 1)) (ty := .int) (C := R_Mod) (T := F_Mod) (N := 16) hx hb hts hin_Mod t_Mod t_Mod_ok n_Mod hown hK hP hD hS 0 rfl rfl 15 (by decide) (hts _ (nw_mc 187 rfl)) (fun _ h9 => h9) rfl (by decide +kernel) rfl rfl (Nat.le_of_ble_eq_true rfl) d_Mod_near_24 (fun H locs hP hD hS => ?_)
      replace hP : va_P (dC, dI) nw_cls [(hM, .inr (1, [.ref ai, .ref aw, .ref ar, .ref al, .ref aL, .ref aD, .ref ac, .ref af, .ref ap, .ref an, .ref ax, .int (nI 0), .int (nI wn), .int (nI chn), .int (nI rn), .int (nI 1)]))] H := hP
      replace hD : va_D A [(hM, .inr (1, [.ref ai, .ref aw, .ref ar, .ref al, .ref aL, .ref aD, .ref ac, .ref af, .ref ap, .ref an, .ref ax, .int (nI 0), .int (nI wn), .int (nI chn), .int (nI rn), .int (nI 1)]))] := hD
      refine lv_aload_n hx hb d_Mod_near_27 rfl (lv_at hl 1 rfl) ?_
      refine va_get (D := (dC, dI)) (ci := 1) (v := .int (nI 1)) (C := R_Mod) (T := F_Mod) (N := 16) hx hb hts hin_Mod hown hK hP 0 rfl rfl 15 (by decide) (hts _ (nw_mc 187 rfl)) (fun _ h9 => h9) rfl d_Mod_near_28 ?_
      refine lv_if_eq hx hb d_Mod_near_31 (tgt := 36) (by decide) (fun hz => ?_) (fun hz => ?_)
      · rw [nw_eq0 (by omega)] at hz
        omega
      · refine lv_iconst (v := nI 0) hx hb d_Mod_near_34 (by decide) ?_
        exact W.iret (v := nI 0) hx hb hr (fun t ht hW => ⟨⟨_, (), rfl, rfl, by rw [ht]; exact hP, hD⟩, hS.F ht⟩) hS.2.2 d_Mod_near_35
    · refine lv_iload_n hx hb d_Mod_near_15 rfl (lv_at hl 0 rfl) ?_
      refine lv_if_ne hx hb d_Mod_near_16 (tgt := 23) (by decide) (fun q3 => ?_) (fun q3 => ?_)
      · rw [nw_eq0 (by omega)] at q3
        exact (hb0.elim q1 (fun h => h.elim q2 (fun h => q3 h))).elim
      · rw [nw_eq0 (by omega)] at q3
        refine lv_iconst (v := nI 1) hx hb d_Mod_near_19 (by decide) ?_
        refine lv_goto hx hb d_Mod_near_20 (tgt := 24) (by decide) ?_
        refine va_put (D := (dC, dI)) (ci := 1) (v := .int (nI 1)) (ty := .int) (C := R_Mod) (T := F_Mod) (N := 16) hx hb hts hin_Mod t_Mod t_Mod_ok n_Mod hown hK hP hD hS 0 rfl rfl 15 (by decide) (hts _ (nw_mc 187 rfl)) (fun _ h9 => h9) rfl (by decide +kernel) rfl rfl (Nat.le_of_ble_eq_true rfl) d_Mod_near_24 (fun H locs hP hD hS => ?_)
        replace hP : va_P (dC, dI) nw_cls [(hM, .inr (1, [.ref ai, .ref aw, .ref ar, .ref al, .ref aL, .ref aD, .ref ac, .ref af, .ref ap, .ref an, .ref ax, .int (nI 0), .int (nI wn), .int (nI chn), .int (nI rn), .int (nI 1)]))] H := hP
        replace hD : va_D A [(hM, .inr (1, [.ref ai, .ref aw, .ref ar, .ref al, .ref aL, .ref aD, .ref ac, .ref af, .ref ap, .ref an, .ref ax, .int (nI 0), .int (nI wn), .int (nI chn), .int (nI rn), .int (nI 1)]))] := hD
        refine lv_aload_n hx hb d_Mod_near_27 rfl (lv_at hl 1 rfl) ?_
        refine va_get (D := (dC, dI)) (ci := 1) (v := .int (nI 1)) (C := R_Mod) (T := F_Mod) (N := 16) hx hb hts hin_Mod hown hK hP 0 rfl rfl 15 (by decide) (hts _ (nw_mc 187 rfl)) (fun _ h9 => h9) rfl d_Mod_near_28 ?_
        refine lv_if_eq hx hb d_Mod_near_31 (tgt := 36) (by decide) (fun hz => ?_) (fun hz => ?_)
        · rw [nw_eq0 (by omega)] at hz
          omega
        · refine lv_iconst (v := nI 0) hx hb d_Mod_near_34 (by decide) ?_
          exact W.iret (v := nI 0) hx hb hr (fun t ht hW => ⟨⟨_, (), rfl, rfl, by rw [ht]; exact hP, hD⟩, hS.F ht⟩) hS.2.2 d_Mod_near_35

set_option maxHeartbeats 4000000 in
set_option maxRecDepth 100000 in
theorem c_Mod_near (l : Launch) (dC : Nat → ClassId) (dI : Nat → Nat → Nat) (sz : Nat) (cB cI : ClassId) (hM ai aw ar al aL aD ac af ap an ax isz wn chn rn th : Nat) (I X Ln ST CH FA Y RL RD : Nat → Nat) (ms : Nat) (hms : ms ≤ 3) (h1 : 1 ≤ isz) (hL1 : ∀ i, i < wn → 1 ≤ Ln i) (hw : wn ≤ 1000) (hn : isz ≤ 60) (hL : ∀ i, i < wn → Ln i ≤ 60) (hX : ∀ j, X j < 128) (hI0 : ∀ j, I j < 128) (hY : ∀ j, Y j < 128) : Met l y_Mod_near w_Mod_near ({ frames := 2, cells := 0, slots := 0, locals := 49 }) (nw_Pw [.ref hM, .int (nI ms)] (dC, dI) nw_cls [(cB, .byte), (cI, .int)] [(hM, .inr (1, [.ref ai, .ref aw, .ref ar, .ref al, .ref aL, .ref aD, .ref ac, .ref af, .ref ap, .ref an, .ref ax, .int (nI isz), .int (nI wn), .int (nI chn), .int (nI rn), .int (nI th)])), (ai, nw_ai cB 60 I), (aw, nw_ai cB 60000 X), (al, nw_ai cI 1000 Ln), (ap, nw_ai cI 3721 ST), (ac, nw_ai cI 50 CH), (af, nw_ai cI 50 FA), (ar, nw_ai cB 3000 Y), (aL, nw_ai cI 50 RL), (aD, nw_ai cI 50 RD)] sz) (va_Qi (fun (r : Int32) (u : (Nat → Nat) × (Nat → Nat) × (Nat → Nat) × (Nat → Nat) × (Nat → Nat) × (Nat → Nat)) => r = nI (nw_cnt (nw_sl (fun i => nw_E (nw_D (fun k => X (i * 60 + k)) I (Ln i) isz) isz (Ln i) ms) wn ms) wn) ∧ nw_kp (nw_sl (fun i => nw_E (nw_D (fun k => X (i * 60 + k)) I (Ln i) isz) isz (Ln i) ms) wn ms) (fun i => nw_E (nw_D (fun k => X (i * 60 + k)) I (Ln i) isz) isz (Ln i) ms) wn (fun i k => X (i * 60 + k)) Ln (fun r k => u.2.2.2.1 (r * 60 + k)) u.2.2.2.2.1 u.2.2.2.2.2 ∧ ∀ j, u.2.2.2.1 j < 128) (nw_B (dC, dI) nw_cls (va_A [(hM, .inr (1, [.ref ai, .ref aw, .ref ar, .ref al, .ref aL, .ref aD, .ref ac, .ref af, .ref ap, .ref an, .ref ax, .int (nI isz), .int (nI wn), .int (nI chn), .int (nI rn), .int (nI th)])), (ai, nw_ai cB 60 I), (aw, nw_ai cB 60000 X), (al, nw_ai cI 1000 Ln), (ap, nw_ai cI 3721 ST), (ac, nw_ai cI 50 CH), (af, nw_ai cI 50 FA), (ar, nw_ai cB 3000 Y), (aL, nw_ai cI 50 RL), (aD, nw_ai cI 50 RD)] sz) (fun u => [(hM, .inr (1, [.ref ai, .ref aw, .ref ar, .ref al, .ref aL, .ref aD, .ref ac, .ref af, .ref ap, .ref an, .ref ax, .int (nI 0), .int (nI wn), .int (nI chn), .int (nI (nw_cnt (nw_sl (fun i => nw_E (nw_D (fun k => X (i * 60 + k)) I (Ln i) isz) isz (Ln i) ms) wn ms) wn)), .int (nI 0)])), (ai, nw_ai cB 60 I), (aw, nw_ai cB 60000 X), (al, nw_ai cI 1000 Ln), (ap, nw_ai cI 3721 u.1), (ac, nw_ai cI 50 u.2.1), (af, nw_ai cI 50 u.2.2.1), (ar, nw_ai cB 3000 u.2.2.2.1), (aL, nw_ai cI 50 u.2.2.2.2.1), (aD, nw_ai cI 50 u.2.2.2.2.2)])) (va_A [(hM, .inr (1, [.ref ai, .ref aw, .ref ar, .ref al, .ref aL, .ref aD, .ref ac, .ref af, .ref ap, .ref an, .ref ax, .int (nI isz), .int (nI wn), .int (nI chn), .int (nI rn), .int (nI th)])), (ai, nw_ai cB 60 I), (aw, nw_ai cB 60000 X), (al, nw_ai cI 1000 Ln), (ap, nw_ai cI 3721 ST), (ac, nw_ai cI 50 CH), (af, nw_ai cI 50 FA), (ar, nw_ai cB 3000 Y), (aL, nw_ai cI 50 RL), (aD, nw_ai cI 50 RD)] sz)) 0 0 (va_A [(hM, .inr (1, [.ref ai, .ref aw, .ref ar, .ref al, .ref aL, .ref aD, .ref ac, .ref af, .ref ap, .ref an, .ref ax, .int (nI isz), .int (nI wn), .int (nI chn), .int (nI rn), .int (nI th)])), (ai, nw_ai cB 60 I), (aw, nw_ai cB 60000 X), (al, nw_ai cI 1000 Ln), (ap, nw_ai cI 3721 ST), (ac, nw_ai cI 50 CH), (af, nw_ai cI 50 FA), (ar, nw_ai cB 3000 Y), (aL, nw_ai cI 50 RL), (aD, nw_ai cI 50 RD)] sz) := by
  refine Met.ofW (cc := b_Mod_near) (maxL := 6) (ret := (some .int)) (by decide) rfl ?_
  intro p e s m args below meth cd s₁ B hml hv0
  obtain ⟨rfl, hsz, hP, hK, hD0⟩ := hv0
  have hx := B.exec
  have hb := B.bytes
  have hr := B.returns
  have hts := atoms_spec (ws := w_Mod_near) B.pre
  have hown : s.vm.findClass R_Mod = some m.cls := findClass_of_methodNamed B.named
  have hlocks := B.notSynchronized
  subst hsz
  have hD := hD0.self (sz := s.heap.size)
  generalize hAe : va_A [(hM, .inr (1, [.ref ai, .ref aw, .ref ar, .ref al, .ref aL, .ref aD, .ref ac, .ref af, .ref ap, .ref an, .ref ax, .int (nI isz), .int (nI wn), .int (nI chn), .int (nI rn), .int (nI th)])), (ai, nw_ai cB 60 I), (aw, nw_ai cB 60000 X), (al, nw_ai cI 1000 Ln), (ap, nw_ai cI 3721 ST), (ac, nw_ai cI 50 CH), (af, nw_ai cI 50 FA), (ar, nw_ai cB 3000 Y), (aL, nw_ai cI 50 RL), (aD, nw_ai cI 50 RD)] s.heap.size = A at hD ⊢
  have hA : ∀ q : Nat, s.heap.size ≤ q → A q := fun q h => by rw [← hAe]; exact Or.inr h
  have hS : va_S A s.heap s.heap [] := va_S.rf
  have hl := lv_entry ([.ref hM, .int (nI ms)]) (n := 6) (Nat.le_of_ble_eq_true rfl)
  rw [lg_entry_eq]
  generalize (lg_sl ([.ref hM, .int (nI ms)]) ++ List.replicate (6 - (lg_sl ([.ref hM, .int (nI ms)])).length) Slot.unset).toArray = ls at hl ⊢
  have hl : lv_has ls 6 [(0, .ref hM), (1, .int (nI ms))] := hl
  obtain ⟨E, hE⟩ : ∃ E : Nat → Nat, E = (fun i => nw_E (nw_D (fun k => X (i * 60 + k)) I (Ln i) isz) isz (Ln i) ms) := ⟨_, rfl⟩
  have hEi : ∀ i, E i = nw_E (nw_D (fun k => X (i * 60 + k)) I (Ln i) isz) isz (Ln i) ms := fun i => by rw [hE]
  refine lv_aload_n hx hb d_Mod_near_0 rfl (lv_at hl 0 rfl) ?_
  refine nw_calli (wc := [(hM, .inr (1, [.ref ai, .ref aw, .ref ar, .ref al, .ref aL, .ref aD, .ref ac, .ref af, .ref ap, .ref an, .ref ax, .int (nI isz), .int (nI wn), .int (nI chn), .int (nI rn), .int (nI th)]))]) (wr := [(ai, nw_ai cB 60 I), (aw, nw_ai cB 60000 X), (al, nw_ai cI 1000 Ln), (ap, nw_ai cI 3721 ST), (ac, nw_ai cI 50 CH), (af, nw_ai cI 50 FA), (ar, nw_ai cB 3000 Y), (aL, nw_ai cI 50 RL), (aD, nw_ai cI 50 RD)]) hP hD hS hA [0] [1, 2, 3, 4, 5, 6, 7, 8, 9] rfl rfl (by decide) (by decide) (va_runV (As := []) (rest := []) ⟨hx, hb, hml, hown, hts⟩ (c_Mod_take l dC dI _ hM ai aw ar al aL aD ac af ap an ax isz wn chn rn th) (cwV (C := R_Mod) 0 hts (nw_GV (nw_m 198 rfl) (nw_m 199 rfl) (nw_m 200 rfl) (nw_m 191 rfl) (nw_m 201 rfl)) rfl rfl rfl (by decide +kernel) ⟨Nat.le_of_ble_eq_true rfl, Nat.le_of_ble_eq_true rfl⟩) (nw_prewV (q0 := 0) (ci := 1) (q := (R_Mod, F_Mod, 16)) hK hP hD [0] [] (by decide) rfl rfl rfl rfl) rfl rfl hl.1 rfl (lv_room (Nat.le_of_ble_eq_true rfl)) d_Mod_near_1 ⟨Nat.le_of_ble_eq_true rfl, Nat.le_of_ble_eq_true rfl⟩) (fun r _ H locs hw hP hD hS => ?_)
  replace hP : va_P (dC, dI) nw_cls [(ai, nw_ai cB 60 I), (aw, nw_ai cB 60000 X), (al, nw_ai cI 1000 Ln), (ap, nw_ai cI 3721 ST), (ac, nw_ai cI 50 CH), (af, nw_ai cI 50 FA), (ar, nw_ai cB 3000 Y), (aL, nw_ai cI 50 RL), (aD, nw_ai cI 50 RD), (hM, .inr (1, [.ref ai, .ref aw, .ref ar, .ref al, .ref aL, .ref aD, .ref ac, .ref af, .ref ap, .ref an, .ref ax, .int (nI 0), .int (nI wn), .int (nI chn), .int (nI rn), .int (nI th)]))] H := hP
  replace hD : va_D A [(ai, nw_ai cB 60 I), (aw, nw_ai cB 60000 X), (al, nw_ai cI 1000 Ln), (ap, nw_ai cI 3721 ST), (ac, nw_ai cI 50 CH), (af, nw_ai cI 50 FA), (ar, nw_ai cB 3000 Y), (aL, nw_ai cI 50 RL), (aD, nw_ai cI 50 RD), (hM, .inr (1, [.ref ai, .ref aw, .ref ar, .ref al, .ref aL, .ref aD, .ref ac, .ref af, .ref ap, .ref an, .ref ax, .int (nI 0), .int (nI wn), .int (nI chn), .int (nI rn), .int (nI th)]))] := hD
  obtain rfl : r = nI isz := hw
  refine lv_istore_n hx hb d_Mod_near_4 rfl hl (by decide) rfl (fun ls hl => ?_)
  replace hl : lv_has ls 6 [(2, .int (nI isz)), (0, .ref hM), (1, .int (nI ms))] := hl
  refine lv_aload_n hx hb d_Mod_near_5 rfl (lv_at hl 1 rfl) ?_
  refine lv_iload_n hx hb d_Mod_near_6 rfl (lv_at hl 2 rfl) ?_
  refine lv_if_lt hx hb d_Mod_near_7 (tgt := 19) (by decide) (fun q1 => ?_) (fun q1 => ?_)
  · rw [nw_lt0 (by omega)] at q1
    omega
  · rw [nw_lt0 (by omega)] at q1
    refine lv_iload_n hx hb d_Mod_near_10 rfl (lv_at hl 2 rfl) ?_
    refine lv_iconst (v := nI 3) hx hb d_Mod_near_11 (by decide) ?_
    refine lv_icmp_gt hx hb d_Mod_near_12 (tgt := 19) (by decide) (fun q2 => ?_) (fun q2 => ?_)
    · rw [nI_ltI (by omega) (by omega)] at q2
      omega
    · rw [nI_ltI (by omega) (by omega)] at q2
      refine lv_iload_n hx hb d_Mod_near_15 rfl (lv_at hl 0 rfl) ?_
      refine lv_if_ne hx hb d_Mod_near_16 (tgt := 23) (by decide) (fun q3 => ?_) (fun q3 => ?_)
      · rw [nw_eq0 (by omega)] at q3
        refine lv_iconst (v := nI 0) hx hb d_Mod_near_23 (by decide) ?_
        refine va_put (D := (dC, dI)) (ci := 1) (v := .int (nI 0)) (ty := .int) (C := R_Mod) (T := F_Mod) (N := 16) hx hb hts hin_Mod t_Mod t_Mod_ok n_Mod hown hK hP hD hS 9 rfl rfl 15 (by decide) (hts _ (nw_mc 187 rfl)) (fun _ h9 => h9) rfl (by decide +kernel) rfl rfl (Nat.le_of_ble_eq_true rfl) d_Mod_near_24 (fun H locs hP hD hS => ?_)
        replace hP : va_P (dC, dI) nw_cls [(ai, nw_ai cB 60 I), (aw, nw_ai cB 60000 X), (al, nw_ai cI 1000 Ln), (ap, nw_ai cI 3721 ST), (ac, nw_ai cI 50 CH), (af, nw_ai cI 50 FA), (ar, nw_ai cB 3000 Y), (aL, nw_ai cI 50 RL), (aD, nw_ai cI 50 RD), (hM, .inr (1, [.ref ai, .ref aw, .ref ar, .ref al, .ref aL, .ref aD, .ref ac, .ref af, .ref ap, .ref an, .ref ax, .int (nI 0), .int (nI wn), .int (nI chn), .int (nI rn), .int (nI 0)]))] H := hP
        replace hD : va_D A [(ai, nw_ai cB 60 I), (aw, nw_ai cB 60000 X), (al, nw_ai cI 1000 Ln), (ap, nw_ai cI 3721 ST), (ac, nw_ai cI 50 CH), (af, nw_ai cI 50 FA), (ar, nw_ai cB 3000 Y), (aL, nw_ai cI 50 RL), (aD, nw_ai cI 50 RD), (hM, .inr (1, [.ref ai, .ref aw, .ref ar, .ref al, .ref aL, .ref aD, .ref ac, .ref af, .ref ap, .ref an, .ref ax, .int (nI 0), .int (nI wn), .int (nI chn), .int (nI rn), .int (nI 0)]))] := hD
        refine lv_aload_n hx hb d_Mod_near_27 rfl (lv_at hl 1 rfl) ?_
        refine va_get (D := (dC, dI)) (ci := 1) (v := .int (nI 0)) (C := R_Mod) (T := F_Mod) (N := 16) hx hb hts hin_Mod hown hK hP 9 rfl rfl 15 (by decide) (hts _ (nw_mc 187 rfl)) (fun _ h9 => h9) rfl d_Mod_near_28 ?_
        refine lv_if_eq hx hb d_Mod_near_31 (tgt := 36) (by decide) (fun q4 => ?_) (fun q4 => ?_)
        · refine lv_iconst (v := nI 0) hx hb d_Mod_near_36 (by decide) ?_
          refine lv_istore_n hx hb d_Mod_near_37 rfl hl (by decide) rfl (fun ls hl => ?_)
          replace hl : lv_has ls 6 [(3, .int (nI 0)), (2, .int (nI isz)), (0, .ref hM), (1, .int (nI ms))] := hl
          refine lv_iconst (v := nI 0) hx hb d_Mod_near_38 (by decide) ?_
          refine lv_istore hx hb d_Mod_near_39 hl (by decide) rfl (fun ls hl => ?_)
          replace hl : lv_has ls 6 [(4, .int (nI 0)), (3, .int (nI 0)), (2, .int (nI isz)), (0, .ref hM), (1, .int (nI ms))] := hl
          have hP := hP.sub (ws' := [(hM, .inr (1, [.ref ai, .ref aw, .ref ar, .ref al, .ref aL, .ref aD, .ref ac, .ref af, .ref ap, .ref an, .ref ax, .int (nI 0), .int (nI wn), .int (nI chn), .int (nI rn), .int (nI 0)])), (ai, nw_ai cB 60 I), (aw, nw_ai cB 60000 X), (al, nw_ai cI 1000 Ln), (ap, nw_ai cI 3721 ST), (ac, nw_ai cI 50 CH), (af, nw_ai cI 50 FA), (ar, nw_ai cB 3000 Y), (aL, nw_ai cI 50 RL), (aD, nw_ai cI 50 RD)]) [9, 0, 1, 2, 3, 4, 5, 6, 7, 8] rfl
          have hD := hD.sub (ws' := [(hM, .inr (1, [.ref ai, .ref aw, .ref ar, .ref al, .ref aL, .ref aD, .ref ac, .ref af, .ref ap, .ref an, .ref ax, .int (nI 0), .int (nI wn), .int (nI chn), .int (nI rn), .int (nI 0)])), (ai, nw_ai cB 60 I), (aw, nw_ai cB 60000 X), (al, nw_ai cI 1000 Ln), (ap, nw_ai cI 3721 ST), (ac, nw_ai cI 50 CH), (af, nw_ai cI 50 FA), (ar, nw_ai cB 3000 Y), (aL, nw_ai cI 50 RL), (aD, nw_ai cI 50 RD)]) [9, 0, 1, 2, 3, 4, 5, 6, 7, 8] (by decide) rfl
          refine nw_loopW (σ := Nat × Nat × (Nat → Nat) × (Nat → Nat) × (Nat → Nat)) (fun x => match x with | (d, fo, st, ch, fa) => d ≤ ms + 1 ∧ fo = min 50 (nw_T E wn d 0) ∧ (∀ k, k < fo → ∃ i, i < wn ∧ E i ≤ ms ∧ nw_T E wn (E i) i = k ∧ ch k = i ∧ fa k = E i) ∧ (∀ i, i < wn → E i ≤ ms → E i < d → nw_T E wn (E i) i < 50 → nw_T E wn (E i) i < fo)) (fun x => match x with | (d, fo, st, ch, fa) => [(4, .int (nI d)), (3, .int (nI fo)), (2, .int (nI isz)), (0, .ref hM), (1, .int (nI ms))]) (fun x => match x with | (d, fo, st, ch, fa) => [(hM, .inr (1, [.ref ai, .ref aw, .ref ar, .ref al, .ref aL, .ref aD, .ref ac, .ref af, .ref ap, .ref an, .ref ax, .int (nI 0), .int (nI wn), .int (nI chn), .int (nI rn), .int (nI 0)])), (ai, nw_ai cB 60 I), (aw, nw_ai cB 60000 X), (al, nw_ai cI 1000 Ln), (ap, nw_ai cI 3721 st), (ac, nw_ai cI 50 ch), (af, nw_ai cI 50 fa), (ar, nw_ai cB 3000 Y), (aL, nw_ai cI 50 RL), (aD, nw_ai cI 50 RD)]) (fun x => match x with | (d, fo, st, ch, fa) => ms + 1 - d) (fun x hA1 ih1 ls H locs hl hP hD hS => ?_) (0, 0, ST, CH, FA) (⟨Nat.zero_le _, rfl, fun k h => absurd h (Nat.not_lt_zero k), fun i _ _ h => absurd h (Nat.not_lt_zero _)⟩) hl hP hD hS
          obtain ⟨d, fo, st, ch, fa⟩ := x
          replace hA1 : d ≤ ms + 1 ∧ fo = min 50 (nw_T E wn d 0) ∧ (∀ k, k < fo → ∃ i, i < wn ∧ E i ≤ ms ∧ nw_T E wn (E i) i = k ∧ ch k = i ∧ fa k = E i) ∧ (∀ i, i < wn → E i ≤ ms → E i < d → nw_T E wn (E i) i < 50 → nw_T E wn (E i) i < fo) := hA1
          replace hl : lv_has ls 6 [(4, .int (nI d)), (3, .int (nI fo)), (2, .int (nI isz)), (0, .ref hM), (1, .int (nI ms))] := hl
          replace hP : va_P (dC, dI) nw_cls [(hM, .inr (1, [.ref ai, .ref aw, .ref ar, .ref al, .ref aL, .ref aD, .ref ac, .ref af, .ref ap, .ref an, .ref ax, .int (nI 0), .int (nI wn), .int (nI chn), .int (nI rn), .int (nI 0)])), (ai, nw_ai cB 60 I), (aw, nw_ai cB 60000 X), (al, nw_ai cI 1000 Ln), (ap, nw_ai cI 3721 st), (ac, nw_ai cI 50 ch), (af, nw_ai cI 50 fa), (ar, nw_ai cB 3000 Y), (aL, nw_ai cI 50 RL), (aD, nw_ai cI 50 RD)] H := hP
          replace hD : va_D A [(hM, .inr (1, [.ref ai, .ref aw, .ref ar, .ref al, .ref aL, .ref aD, .ref ac, .ref af, .ref ap, .ref an, .ref ax, .int (nI 0), .int (nI wn), .int (nI chn), .int (nI rn), .int (nI 0)])), (ai, nw_ai cB 60 I), (aw, nw_ai cB 60000 X), (al, nw_ai cI 1000 Ln), (ap, nw_ai cI 3721 st), (ac, nw_ai cI 50 ch), (af, nw_ai cI 50 fa), (ar, nw_ai cB 3000 Y), (aL, nw_ai cI 50 RL), (aD, nw_ai cI 50 RD)] := hD
          obtain ⟨hd, hfo, hA2, hB2⟩ := hA1
          refine lv_iload hx hb d_Mod_near_41 (lv_at hl 0 rfl) ?_
          refine lv_iload_n hx hb d_Mod_near_43 rfl (lv_at hl 4 rfl) ?_
          refine lv_icmp_gt hx hb d_Mod_near_44 (tgt := 134) (by decide) (fun q5 => ?_) (fun q5 => ?_)
          · rw [nI_ltI (by omega) (by omega)] at q5
            have hB5 : ∀ i, i < wn → nw_sl E wn ms i → nw_T E wn (E i) i < fo := fun i h2 h3 => hB2 i h2 h3.1 (by have := h3.1; omega) h3.2
            have hA5 : ∀ k w, k < fo → ch k = w → nw_sl E wn ms w ∧ nw_T E wn (E w) w = k ∧ fa k = E w := fun k w hk hw => by
              obtain ⟨i, g1, g2, g3, g4, g5⟩ := hA2 k hk
              have e9 : i = w := by rw [← g4]; exact hw
              subst e9
              exact ⟨⟨g2, by rw [g3]; omega⟩, g3, g5⟩
            have hCH : ∀ i, i < wn → nw_sl E wn ms i → ch (nw_T E wn (E i) i) = i := fun i h2 h3 => by
              obtain ⟨j, g1, g2, g3, g4, g5⟩ := hA2 _ (hB5 i h2 h3)
              rw [g4]
              exact nw_T_inj g1 h2 g3
            have hfo9 : fo ≤ 50 := by omega
            have hall := nw_sl_le E wn ms
            refine lv_aload_n hx hb d_Mod_near_134 rfl (lv_at hl 3 rfl) ?_
            refine lv_iconst (v := nI 0) hx hb d_Mod_near_135 (by decide) ?_
            refine va_put (D := (dC, dI)) (ci := 1) (v := .int (nI 0)) (ty := .int) (C := R_Mod) (T := F_Mod) (N := 16) hx hb hts hin_Mod t_Mod t_Mod_ok n_Mod hown hK hP hD hS 0 rfl rfl 14 (by decide) (hts _ (nw_mc 215 rfl)) (fun _ h9 => h9) rfl (by decide +kernel) rfl rfl (Nat.le_of_ble_eq_true rfl) d_Mod_near_136 (fun H locs hP hD hS => ?_)
            replace hP : va_P (dC, dI) nw_cls [(hM, .inr (1, [.ref ai, .ref aw, .ref ar, .ref al, .ref aL, .ref aD, .ref ac, .ref af, .ref ap, .ref an, .ref ax, .int (nI 0), .int (nI wn), .int (nI chn), .int (nI 0), .int (nI 0)])), (ai, nw_ai cB 60 I), (aw, nw_ai cB 60000 X), (al, nw_ai cI 1000 Ln), (ap, nw_ai cI 3721 st), (ac, nw_ai cI 50 ch), (af, nw_ai cI 50 fa), (ar, nw_ai cB 3000 Y), (aL, nw_ai cI 50 RL), (aD, nw_ai cI 50 RD)] H := hP
            replace hD : va_D A [(hM, .inr (1, [.ref ai, .ref aw, .ref ar, .ref al, .ref aL, .ref aD, .ref ac, .ref af, .ref ap, .ref an, .ref ax, .int (nI 0), .int (nI wn), .int (nI chn), .int (nI 0), .int (nI 0)])), (ai, nw_ai cB 60 I), (aw, nw_ai cB 60000 X), (al, nw_ai cI 1000 Ln), (ap, nw_ai cI 3721 st), (ac, nw_ai cI 50 ch), (af, nw_ai cI 50 fa), (ar, nw_ai cB 3000 Y), (aL, nw_ai cI 50 RL), (aD, nw_ai cI 50 RD)] := hD
            refine lv_iconst (v := nI 0) hx hb d_Mod_near_139 (by decide) ?_
            refine lv_istore hx hb d_Mod_near_140 hl (by decide) rfl (fun ls hl => ?_)
            replace hl : lv_has ls 6 [(4, .int (nI 0)), (3, .int (nI fo)), (2, .int (nI isz)), (0, .ref hM), (1, .int (nI ms))] := hl
            refine nw_loopW (σ := Nat × (Nat → Nat) × (Nat → Nat) × (Nat → Nat)) (fun x => match x with | (w, y, rl, rd) => w ≤ wn ∧ nw_kp (nw_sl E wn ms) E w (fun i k => X (i * 60 + k)) Ln (fun r k => y (r * 60 + k)) rl rd ∧ ∀ j, y j < 128) (fun x => match x with | (w, y, rl, rd) => [(4, .int (nI w)), (3, .int (nI fo)), (2, .int (nI isz)), (0, .ref hM), (1, .int (nI ms))]) (fun x => match x with | (w, y, rl, rd) => [(hM, .inr (1, [.ref ai, .ref aw, .ref ar, .ref al, .ref aL, .ref aD, .ref ac, .ref af, .ref ap, .ref an, .ref ax, .int (nI 0), .int (nI wn), .int (nI chn), .int (nI (nw_cnt (nw_sl E wn ms) w)), .int (nI 0)])), (ai, nw_ai cB 60 I), (aw, nw_ai cB 60000 X), (al, nw_ai cI 1000 Ln), (ap, nw_ai cI 3721 st), (ac, nw_ai cI 50 ch), (af, nw_ai cI 50 fa), (ar, nw_ai cB 3000 y), (aL, nw_ai cI 50 rl), (aD, nw_ai cI 50 rd)]) (fun x => match x with | (w, y, rl, rd) => wn - w) (fun x hA6 ih3 ls H locs hl hP hD hS => ?_) (0, Y, RL, RD) (⟨Nat.zero_le _, nw_kp_0, hY⟩) hl hP hD hS
            obtain ⟨w, y, rl, rd⟩ := x
            replace hA6 : w ≤ wn ∧ nw_kp (nw_sl E wn ms) E w (fun i k => X (i * 60 + k)) Ln (fun r k => y (r * 60 + k)) rl rd ∧ ∀ j, y j < 128 := hA6
            replace hl : lv_has ls 6 [(4, .int (nI w)), (3, .int (nI fo)), (2, .int (nI isz)), (0, .ref hM), (1, .int (nI ms))] := hl
            replace hP : va_P (dC, dI) nw_cls [(hM, .inr (1, [.ref ai, .ref aw, .ref ar, .ref al, .ref aL, .ref aD, .ref ac, .ref af, .ref ap, .ref an, .ref ax, .int (nI 0), .int (nI wn), .int (nI chn), .int (nI (nw_cnt (nw_sl E wn ms) w)), .int (nI 0)])), (ai, nw_ai cB 60 I), (aw, nw_ai cB 60000 X), (al, nw_ai cI 1000 Ln), (ap, nw_ai cI 3721 st), (ac, nw_ai cI 50 ch), (af, nw_ai cI 50 fa), (ar, nw_ai cB 3000 y), (aL, nw_ai cI 50 rl), (aD, nw_ai cI 50 rd)] H := hP
            replace hD : va_D A [(hM, .inr (1, [.ref ai, .ref aw, .ref ar, .ref al, .ref aL, .ref aD, .ref ac, .ref af, .ref ap, .ref an, .ref ax, .int (nI 0), .int (nI wn), .int (nI chn), .int (nI (nw_cnt (nw_sl E wn ms) w)), .int (nI 0)])), (ai, nw_ai cB 60 I), (aw, nw_ai cB 60000 X), (al, nw_ai cI 1000 Ln), (ap, nw_ai cI 3721 st), (ac, nw_ai cI 50 ch), (af, nw_ai cI 50 fa), (ar, nw_ai cB 3000 y), (aL, nw_ai cI 50 rl), (aD, nw_ai cI 50 rd)] := hD
            obtain ⟨hw1, hkp, hy⟩ := hA6
            refine lv_iload hx hb d_Mod_near_142 (lv_at hl 0 rfl) ?_
            refine lv_aload_n hx hb d_Mod_near_144 rfl (lv_at hl 3 rfl) ?_
            refine va_get (D := (dC, dI)) (ci := 1) (v := .int (nI wn)) (C := R_Mod) (T := F_Mod) (N := 16) hx hb hts hin_Mod hown hK hP 0 rfl rfl 12 (by decide) (hts _ (nw_mc 193 rfl)) (fun _ h9 => h9) rfl d_Mod_near_145 ?_
            refine lv_icmp_ge hx hb d_Mod_near_148 (tgt := 214) (by decide) (fun s1 => ?_) (fun s1 => ?_)
            · rw [nI_leI (by omega) (by omega)] at s1
              have hw9 : w = wn := by omega
              rw [hw9] at hP hD hkp
              refine lv_aload_n hx hb d_Mod_near_214 rfl (lv_at hl 3 rfl) ?_
              refine va_get (D := (dC, dI)) (ci := 1) (v := .int (nI (nw_cnt (nw_sl E wn ms) wn))) (C := R_Mod) (T := F_Mod) (N := 16) hx hb hts hin_Mod hown hK hP 0 rfl rfl 14 (by decide) (hts _ (nw_mc 215 rfl)) (fun _ h9 => h9) rfl d_Mod_near_215 ?_
              subst hE
              exact W.iret (v := nI (nw_cnt (nw_sl (fun i => nw_E (nw_D (fun k => X (i * 60 + k)) I (Ln i) isz) isz (Ln i) ms) wn ms) wn)) hx hb hr (fun t ht hW => ⟨⟨_, (st, ch, fa, y, rl, rd), rfl, ⟨rfl, hkp, hy⟩, by rw [ht]; exact hP, hD⟩, hS.F ht⟩) hS.2.2 d_Mod_near_218
            · rw [nI_leI (by omega) (by omega)] at s1
              refine lv_iconst (v := nI 0) hx hb d_Mod_near_151 (by decide) ?_
              refine lv_istore hx hb d_Mod_near_152 hl (by decide) rfl (fun ls hl => ?_)
              replace hl : lv_has ls 6 [(5, .int (nI 0)), (4, .int (nI w)), (3, .int (nI fo)), (2, .int (nI isz)), (0, .ref hM), (1, .int (nI ms))] := hl
              by_cases hsw : nw_sl E wn ms w
              · generalize htw : nw_T E wn (E w) w = tw
                have htw2 : tw < fo := by rw [← htw]; exact hB5 w (by omega) hsw
                have hcw : ch tw = w := by rw [← htw]; exact hCH w (by omega) hsw
                have hlw := hL w (by omega)
                have hc50 := nw_cnt_lt (f := nw_sl E wn ms) (i := w) (n := wn) (by omega) hsw
                refine nw_loopW (σ := Nat) (fun k => k ≤ tw) (fun k => [(5, .int (nI k)), (4, .int (nI w)), (3, .int (nI fo)), (2, .int (nI isz)), (0, .ref hM), (1, .int (nI ms))]) (fun k => [(hM, .inr (1, [.ref ai, .ref aw, .ref ar, .ref al, .ref aL, .ref aD, .ref ac, .ref af, .ref ap, .ref an, .ref ax, .int (nI 0), .int (nI wn), .int (nI chn), .int (nI (nw_cnt (nw_sl E wn ms) w)), .int (nI 0)])), (ai, nw_ai cB 60 I), (aw, nw_ai cB 60000 X), (al, nw_ai cI 1000 Ln), (ap, nw_ai cI 3721 st), (ac, nw_ai cI 50 ch), (af, nw_ai cI 50 fa), (ar, nw_ai cB 3000 y), (aL, nw_ai cI 50 rl), (aD, nw_ai cI 50 rd)]) (fun k => tw - k) (fun x hA7 ih4 ls H locs hl hP hD hS => ?_) 0 (Nat.zero_le _) hl hP hD hS
                obtain ⟨k, hx9⟩ : ∃ z, z = x := ⟨x, rfl⟩
                subst hx9
                replace hA7 : k ≤ tw := hA7
                replace hl : lv_has ls 6 [(5, .int (nI k)), (4, .int (nI w)), (3, .int (nI fo)), (2, .int (nI isz)), (0, .ref hM), (1, .int (nI ms))] := hl
                replace hP : va_P (dC, dI) nw_cls [(hM, .inr (1, [.ref ai, .ref aw, .ref ar, .ref al, .ref aL, .ref aD, .ref ac, .ref af, .ref ap, .ref an, .ref ax, .int (nI 0), .int (nI wn), .int (nI chn), .int (nI (nw_cnt (nw_sl E wn ms) w)), .int (nI 0)])), (ai, nw_ai cB 60 I), (aw, nw_ai cB 60000 X), (al, nw_ai cI 1000 Ln), (ap, nw_ai cI 3721 st), (ac, nw_ai cI 50 ch), (af, nw_ai cI 50 fa), (ar, nw_ai cB 3000 y), (aL, nw_ai cI 50 rl), (aD, nw_ai cI 50 rd)] H := hP
                replace hD : va_D A [(hM, .inr (1, [.ref ai, .ref aw, .ref ar, .ref al, .ref aL, .ref aD, .ref ac, .ref af, .ref ap, .ref an, .ref ax, .int (nI 0), .int (nI wn), .int (nI chn), .int (nI (nw_cnt (nw_sl E wn ms) w)), .int (nI 0)])), (ai, nw_ai cB 60 I), (aw, nw_ai cB 60000 X), (al, nw_ai cI 1000 Ln), (ap, nw_ai cI 3721 st), (ac, nw_ai cI 50 ch), (af, nw_ai cI 50 fa), (ar, nw_ai cB 3000 y), (aL, nw_ai cI 50 rl), (aD, nw_ai cI 50 rd)] := hD
                refine lv_iload hx hb d_Mod_near_154 (lv_at hl 0 rfl) ?_
                refine lv_iload_n hx hb d_Mod_near_156 rfl (lv_at hl 2 rfl) ?_
                refine lv_icmp_ge hx hb d_Mod_near_157 (tgt := 208) (by decide) (fun s2 => ?_) (fun s2 => ?_)
                · rw [nI_leI (by omega) (by omega)] at s2
                  omega
                · rw [nI_leI (by omega) (by omega)] at s2
                  have hck : ch k < 2 ^ 31 := by
                    obtain ⟨i, g1, g2, g3, g4, g5⟩ := hA2 k (by omega)
                    omega
                  refine lv_aload_n hx hb d_Mod_near_160 rfl (lv_at hl 4 rfl) ?_
                  refine va_get (D := (dC, dI)) (ci := 1) (v := .ref ac) (C := R_Mod) (T := F_Mod) (N := 16) hx hb hts hin_Mod hown hK hP 0 rfl rfl 6 (by decide) (hts _ (nw_mc 181 rfl)) (fun _ h9 => h9) rfl d_Mod_near_161 ?_
                  refine lv_iload hx hb d_Mod_near_164 (lv_at hl 0 rfl) ?_
                  refine nw_iald hx hb hK hP 5 1 rfl rfl (k := k) (by omega) (by first | decide | omega) d_Mod_near_166 ?_
                  refine lv_iload hx hb d_Mod_near_167 (lv_at hl 1 rfl) ?_
                  refine lv_icmp_eq hx hb d_Mod_near_169 (tgt := 175) (by decide) (fun s3 => ?_) (fun s3 => ?_)
                  · rw [nI_eq (by omega) (by omega)] at s3
                    have hk9 : k = tw := by rw [← (hA5 k w (by omega) s3).2.1]; exact htw
                    have hfw := (hA5 k w (by omega) s3).2.2
                    refine lv_aload_n hx hb d_Mod_near_175 rfl (lv_at hl 4 rfl) ?_
                    refine lv_aload_n hx hb d_Mod_near_176 rfl (lv_at hl 4 rfl) ?_
                    refine va_get (D := (dC, dI)) (ci := 1) (v := .int (nI (nw_cnt (nw_sl E wn ms) w))) (C := R_Mod) (T := F_Mod) (N := 16) hx hb hts hin_Mod hown hK hP 0 rfl rfl 14 (by decide) (hts _ (nw_mc 215 rfl)) (fun _ h9 => h9) rfl d_Mod_near_177 ?_
                    refine lv_iload hx hb d_Mod_near_180 (lv_at hl 1 rfl) ?_
                    refine lv_aload_n hx hb d_Mod_near_182 rfl (lv_at hl 4 rfl) ?_
                    refine va_get (D := (dC, dI)) (ci := 1) (v := .ref af) (C := R_Mod) (T := F_Mod) (N := 16) hx hb hts hin_Mod hown hK hP 0 rfl rfl 7 (by decide) (hts _ (nw_mc 182 rfl)) (fun _ h9 => h9) rfl d_Mod_near_183 ?_
                    refine lv_iload hx hb d_Mod_near_186 (lv_at hl 0 rfl) ?_
                    refine nw_iald hx hb hK hP 6 1 rfl rfl (k := k) (by omega) (by first | decide | omega) d_Mod_near_188 ?_
                    refine nw_callv (wc := [(hM, .inr (1, [.ref ai, .ref aw, .ref ar, .ref al, .ref aL, .ref aD, .ref ac, .ref af, .ref ap, .ref an, .ref ax, .int (nI 0), .int (nI wn), .int (nI chn), .int (nI (nw_cnt (nw_sl E wn ms) w)), .int (nI 0)])), (aw, nw_ai cB 60000 X), (al, nw_ai cI 1000 Ln), (ar, nw_ai cB 3000 y), (aL, nw_ai cI 50 rl), (aD, nw_ai cI 50 rd)]) (wr := [(ai, nw_ai cB 60 I), (ap, nw_ai cI 3721 st), (ac, nw_ai cI 50 ch), (af, nw_ai cI 50 fa)]) hP hD hS hA [0, 2, 3, 7, 8, 9] [1, 4, 5, 6] rfl rfl (by decide) (by decide) (va_runV (As := [.int (nI (nw_cnt (nw_sl E wn ms) w)), .int (nI w), .int (nI (fa k))]) (rest := []) ⟨hx, hb, hml, hown, hts⟩ (c_Mod_keep l dC dI _ cB cI hM ai aw ar al aL aD ac af ap an ax 0 wn chn (nw_cnt (nw_sl E wn ms) w) 0 X Ln y rl rd (nw_cnt (nw_sl E wn ms) w) w (fa k) (by omega) (by omega) hlw hX) (cwV (C := R_Mod) 3 hts (nw_GV (nw_m 216 rfl) (nw_m 217 rfl) (nw_m 218 rfl) (nw_m 191 rfl) (nw_m 219 rfl)) rfl rfl rfl (by decide +kernel) ⟨Nat.le_of_ble_eq_true rfl, Nat.le_of_ble_eq_true rfl⟩) (nw_prewV (q0 := 0) (ci := 1) (q := (R_Mod, F_Mod, 16)) hK hP hD [0, 2, 3, 7, 8, 9] [0, 1] (by decide) rfl rfl rfl rfl) rfl rfl hl.1 rfl (lv_room (Nat.le_of_ble_eq_true rfl)) d_Mod_near_189 ⟨Nat.le_of_ble_eq_true rfl, Nat.le_of_ble_eq_true rfl⟩) (fun _ H locs hw hP hD hS => ?_)
                    replace hP : va_P (dC, dI) nw_cls [(ai, nw_ai cB 60 I), (ap, nw_ai cI 3721 st), (ac, nw_ai cI 50 ch), (af, nw_ai cI 50 fa), (hM, .inr (1, [.ref ai, .ref aw, .ref ar, .ref al, .ref aL, .ref aD, .ref ac, .ref af, .ref ap, .ref an, .ref ax, .int (nI 0), .int (nI wn), .int (nI chn), .int (nI (nw_cnt (nw_sl E wn ms) w)), .int (nI 0)])), (aw, nw_ai cB 60000 X), (al, nw_ai cI 1000 Ln), (ar, nw_ai cB 3000 (va_cpy X y (w * 60) ((nw_cnt (nw_sl E wn ms) w) * 60) (Ln w))), (aL, nw_ai cI 50 (va_up rl (nw_cnt (nw_sl E wn ms) w) (Ln w))), (aD, nw_ai cI 50 (va_up rd (nw_cnt (nw_sl E wn ms) w) (fa k)))] H := hP
                    replace hD : va_D A [(ai, nw_ai cB 60 I), (ap, nw_ai cI 3721 st), (ac, nw_ai cI 50 ch), (af, nw_ai cI 50 fa), (hM, .inr (1, [.ref ai, .ref aw, .ref ar, .ref al, .ref aL, .ref aD, .ref ac, .ref af, .ref ap, .ref an, .ref ax, .int (nI 0), .int (nI wn), .int (nI chn), .int (nI (nw_cnt (nw_sl E wn ms) w)), .int (nI 0)])), (aw, nw_ai cB 60000 X), (al, nw_ai cI 1000 Ln), (ar, nw_ai cB 3000 (va_cpy X y (w * 60) ((nw_cnt (nw_sl E wn ms) w) * 60) (Ln w))), (aL, nw_ai cI 50 (va_up rl (nw_cnt (nw_sl E wn ms) w) (Ln w))), (aD, nw_ai cI 50 (va_up rd (nw_cnt (nw_sl E wn ms) w) (fa k)))] := hD
                    refine lv_aload_n hx hb d_Mod_near_192 rfl (lv_at hl 4 rfl) ?_
                    refine lv_dup hx hb d_Mod_near_193 rfl ?_
                    refine va_get (D := (dC, dI)) (ci := 1) (v := .int (nI (nw_cnt (nw_sl E wn ms) w))) (C := R_Mod) (T := F_Mod) (N := 16) hx hb hts hin_Mod hown hK hP 4 rfl rfl 14 (by decide) (hts _ (nw_mc 215 rfl)) (fun _ h9 => h9) rfl d_Mod_near_194 ?_
                    refine lv_iconst (v := nI 1) hx hb d_Mod_near_197 (by decide) ?_
                    refine lv_iadd hx hb d_Mod_near_198 ?_
                    refine nw_ti (nI_add (nw_cnt (nw_sl E wn ms) w) 1) ?_
                    refine va_put (D := (dC, dI)) (ci := 1) (v := .int (nI ((nw_cnt (nw_sl E wn ms) w) + 1))) (ty := .int) (C := R_Mod) (T := F_Mod) (N := 16) hx hb hts hin_Mod t_Mod t_Mod_ok n_Mod hown hK hP hD hS 4 rfl rfl 14 (by decide) (hts _ (nw_mc 215 rfl)) (fun _ h9 => h9) rfl (by decide +kernel) rfl rfl (Nat.le_of_ble_eq_true rfl) d_Mod_near_199 (fun H locs hP hD hS => ?_)
                    replace hP : va_P (dC, dI) nw_cls [(ai, nw_ai cB 60 I), (ap, nw_ai cI 3721 st), (ac, nw_ai cI 50 ch), (af, nw_ai cI 50 fa), (hM, .inr (1, [.ref ai, .ref aw, .ref ar, .ref al, .ref aL, .ref aD, .ref ac, .ref af, .ref ap, .ref an, .ref ax, .int (nI 0), .int (nI wn), .int (nI chn), .int (nI ((nw_cnt (nw_sl E wn ms) w) + 1)), .int (nI 0)])), (aw, nw_ai cB 60000 X), (al, nw_ai cI 1000 Ln), (ar, nw_ai cB 3000 (va_cpy X y (w * 60) ((nw_cnt (nw_sl E wn ms) w) * 60) (Ln w))), (aL, nw_ai cI 50 (va_up rl (nw_cnt (nw_sl E wn ms) w) (Ln w))), (aD, nw_ai cI 50 (va_up rd (nw_cnt (nw_sl E wn ms) w) (fa k)))] H := hP
                    replace hD : va_D A [(ai, nw_ai cB 60 I), (ap, nw_ai cI 3721 st), (ac, nw_ai cI 50 ch), (af, nw_ai cI 50 fa), (hM, .inr (1, [.ref ai, .ref aw, .ref ar, .ref al, .ref aL, .ref aD, .ref ac, .ref af, .ref ap, .ref an, .ref ax, .int (nI 0), .int (nI wn), .int (nI chn), .int (nI ((nw_cnt (nw_sl E wn ms) w) + 1)), .int (nI 0)])), (aw, nw_ai cB 60000 X), (al, nw_ai cI 1000 Ln), (ar, nw_ai cB 3000 (va_cpy X y (w * 60) ((nw_cnt (nw_sl E wn ms) w) * 60) (Ln w))), (aL, nw_ai cI 50 (va_up rl (nw_cnt (nw_sl E wn ms) w) (Ln w))), (aD, nw_ai cI 50 (va_up rd (nw_cnt (nw_sl E wn ms) w) (fa k)))] := hD
                    have hP := hP.sub (ws' := [(hM, .inr (1, [.ref ai, .ref aw, .ref ar, .ref al, .ref aL, .ref aD, .ref ac, .ref af, .ref ap, .ref an, .ref ax, .int (nI 0), .int (nI wn), .int (nI chn), .int (nI ((nw_cnt (nw_sl E wn ms) w) + 1)), .int (nI 0)])), (ai, nw_ai cB 60 I), (aw, nw_ai cB 60000 X), (al, nw_ai cI 1000 Ln), (ap, nw_ai cI 3721 st), (ac, nw_ai cI 50 ch), (af, nw_ai cI 50 fa), (ar, nw_ai cB 3000 (va_cpy X y (w * 60) ((nw_cnt (nw_sl E wn ms) w) * 60) (Ln w))), (aL, nw_ai cI 50 (va_up rl (nw_cnt (nw_sl E wn ms) w) (Ln w))), (aD, nw_ai cI 50 (va_up rd (nw_cnt (nw_sl E wn ms) w) (fa k)))]) [4, 0, 5, 6, 1, 2, 3, 7, 8, 9] rfl
                    have hD := hD.sub (ws' := [(hM, .inr (1, [.ref ai, .ref aw, .ref ar, .ref al, .ref aL, .ref aD, .ref ac, .ref af, .ref ap, .ref an, .ref ax, .int (nI 0), .int (nI wn), .int (nI chn), .int (nI ((nw_cnt (nw_sl E wn ms) w) + 1)), .int (nI 0)])), (ai, nw_ai cB 60 I), (aw, nw_ai cB 60000 X), (al, nw_ai cI 1000 Ln), (ap, nw_ai cI 3721 st), (ac, nw_ai cI 50 ch), (af, nw_ai cI 50 fa), (ar, nw_ai cB 3000 (va_cpy X y (w * 60) ((nw_cnt (nw_sl E wn ms) w) * 60) (Ln w))), (aL, nw_ai cI 50 (va_up rl (nw_cnt (nw_sl E wn ms) w) (Ln w))), (aD, nw_ai cI 50 (va_up rd (nw_cnt (nw_sl E wn ms) w) (fa k)))]) [4, 0, 5, 6, 1, 2, 3, 7, 8, 9] (by decide) rfl
                    rw [← nw_cnt_pos hsw] at hP hD
                    replace hP : va_P (dC, dI) nw_cls [(hM, .inr (1, [.ref ai, .ref aw, .ref ar, .ref al, .ref aL, .ref aD, .ref ac, .ref af, .ref ap, .ref an, .ref ax, .int (nI 0), .int (nI wn), .int (nI chn), .int (nI (nw_cnt (nw_sl E wn ms) (w + 1))), .int (nI 0)])), (ai, nw_ai cB 60 I), (aw, nw_ai cB 60000 X), (al, nw_ai cI 1000 Ln), (ap, nw_ai cI 3721 st), (ac, nw_ai cI 50 ch), (af, nw_ai cI 50 fa), (ar, nw_ai cB 3000 (va_cpy X y (w * 60) ((nw_cnt (nw_sl E wn ms) w) * 60) (Ln w))), (aL, nw_ai cI 50 (va_up rl (nw_cnt (nw_sl E wn ms) w) (Ln w))), (aD, nw_ai cI 50 (va_up rd (nw_cnt (nw_sl E wn ms) w) (fa k)))] H := hP
                    replace hD : va_D A [(hM, .inr (1, [.ref ai, .ref aw, .ref ar, .ref al, .ref aL, .ref aD, .ref ac, .ref af, .ref ap, .ref an, .ref ax, .int (nI 0), .int (nI wn), .int (nI chn), .int (nI (nw_cnt (nw_sl E wn ms) (w + 1))), .int (nI 0)])), (ai, nw_ai cB 60 I), (aw, nw_ai cB 60000 X), (al, nw_ai cI 1000 Ln), (ap, nw_ai cI 3721 st), (ac, nw_ai cI 50 ch), (af, nw_ai cI 50 fa), (ar, nw_ai cB 3000 (va_cpy X y (w * 60) ((nw_cnt (nw_sl E wn ms) w) * 60) (Ln w))), (aL, nw_ai cI 50 (va_up rl (nw_cnt (nw_sl E wn ms) w) (Ln w))), (aD, nw_ai cI 50 (va_up rd (nw_cnt (nw_sl E wn ms) w) (fa k)))] := hD
                    refine lv_iinc (v := nI (k + 1)) hx hb d_Mod_near_202 hl (k := 0) rfl (nI_add k 1) (by decide) rfl (fun ls hl => ?_)
                    have hl : lv_has ls 6 [(5, .int (nI (k + 1))), (4, .int (nI w)), (3, .int (nI fo)), (2, .int (nI isz)), (0, .ref hM), (1, .int (nI ms))] := hl
                    refine lv_goto hx hb d_Mod_near_205 (tgt := 154) (by decide) ?_
                    refine nw_loopW (σ := Nat) (fun k2 => tw < k2 ∧ k2 ≤ fo) (fun k2 => [(5, .int (nI k2)), (4, .int (nI w)), (3, .int (nI fo)), (2, .int (nI isz)), (0, .ref hM), (1, .int (nI ms))]) (fun k2 => [(hM, .inr (1, [.ref ai, .ref aw, .ref ar, .ref al, .ref aL, .ref aD, .ref ac, .ref af, .ref ap, .ref an, .ref ax, .int (nI 0), .int (nI wn), .int (nI chn), .int (nI (nw_cnt (nw_sl E wn ms) (w + 1))), .int (nI 0)])), (ai, nw_ai cB 60 I), (aw, nw_ai cB 60000 X), (al, nw_ai cI 1000 Ln), (ap, nw_ai cI 3721 st), (ac, nw_ai cI 50 ch), (af, nw_ai cI 50 fa), (ar, nw_ai cB 3000 (va_cpy X y (w * 60) ((nw_cnt (nw_sl E wn ms) w) * 60) (Ln w))), (aL, nw_ai cI 50 (va_up rl (nw_cnt (nw_sl E wn ms) w) (Ln w))), (aD, nw_ai cI 50 (va_up rd (nw_cnt (nw_sl E wn ms) w) (fa k)))]) (fun k2 => fo - k2) (fun x hA8 ih5 ls H locs hl hP hD hS => ?_) (k + 1) (⟨by omega, by omega⟩) hl hP hD hS
                    obtain ⟨k2, hx9⟩ : ∃ z, z = x := ⟨x, rfl⟩
                    subst hx9
                    replace hA8 : tw < k2 ∧ k2 ≤ fo := hA8
                    replace hl : lv_has ls 6 [(5, .int (nI k2)), (4, .int (nI w)), (3, .int (nI fo)), (2, .int (nI isz)), (0, .ref hM), (1, .int (nI ms))] := hl
                    replace hP : va_P (dC, dI) nw_cls [(hM, .inr (1, [.ref ai, .ref aw, .ref ar, .ref al, .ref aL, .ref aD, .ref ac, .ref af, .ref ap, .ref an, .ref ax, .int (nI 0), .int (nI wn), .int (nI chn), .int (nI (nw_cnt (nw_sl E wn ms) (w + 1))), .int (nI 0)])), (ai, nw_ai cB 60 I), (aw, nw_ai cB 60000 X), (al, nw_ai cI 1000 Ln), (ap, nw_ai cI 3721 st), (ac, nw_ai cI 50 ch), (af, nw_ai cI 50 fa), (ar, nw_ai cB 3000 (va_cpy X y (w * 60) ((nw_cnt (nw_sl E wn ms) w) * 60) (Ln w))), (aL, nw_ai cI 50 (va_up rl (nw_cnt (nw_sl E wn ms) w) (Ln w))), (aD, nw_ai cI 50 (va_up rd (nw_cnt (nw_sl E wn ms) w) (fa k)))] H := hP
                    replace hD : va_D A [(hM, .inr (1, [.ref ai, .ref aw, .ref ar, .ref al, .ref aL, .ref aD, .ref ac, .ref af, .ref ap, .ref an, .ref ax, .int (nI 0), .int (nI wn), .int (nI chn), .int (nI (nw_cnt (nw_sl E wn ms) (w + 1))), .int (nI 0)])), (ai, nw_ai cB 60 I), (aw, nw_ai cB 60000 X), (al, nw_ai cI 1000 Ln), (ap, nw_ai cI 3721 st), (ac, nw_ai cI 50 ch), (af, nw_ai cI 50 fa), (ar, nw_ai cB 3000 (va_cpy X y (w * 60) ((nw_cnt (nw_sl E wn ms) w) * 60) (Ln w))), (aL, nw_ai cI 50 (va_up rl (nw_cnt (nw_sl E wn ms) w) (Ln w))), (aD, nw_ai cI 50 (va_up rd (nw_cnt (nw_sl E wn ms) w) (fa k)))] := hD
                    refine lv_iload hx hb d_Mod_near_154 (lv_at hl 0 rfl) ?_
                    refine lv_iload_n hx hb d_Mod_near_156 rfl (lv_at hl 2 rfl) ?_
                    refine lv_icmp_ge hx hb d_Mod_near_157 (tgt := 208) (by decide) (fun s4 => ?_) (fun s4 => ?_)
                    · rw [nI_leI (by omega) (by omega)] at s4
                      refine lv_iinc (v := nI (w + 1)) hx hb d_Mod_near_208 hl (k := 1) rfl (nI_add w 1) (by decide) rfl (fun ls hl => ?_)
                      have hl : lv_has ls 6 [(4, .int (nI (w + 1))), (5, .int (nI k2)), (3, .int (nI fo)), (2, .int (nI isz)), (0, .ref hM), (1, .int (nI ms))] := hl
                      refine lv_goto hx hb d_Mod_near_211 (tgt := 142) (by decide) ?_
                      exact ih3 (w + 1, va_cpy X y (w * 60) ((nw_cnt (nw_sl E wn ms) w) * 60) (Ln w), va_up rl (nw_cnt (nw_sl E wn ms) w) (Ln w), va_up rd (nw_cnt (nw_sl E wn ms) w) (fa k)) (⟨by omega, nw_kp_m hkp (fun i hi => hL i (by omega)) rfl hfw, nw_cpy_lt hX hy⟩) (show wn - (w + 1) < wn - w by omega) _ _ _ (lv_sub hl [0, 2, 3, 4, 5] rfl) hP hD hS
                    · rw [nI_leI (by omega) (by omega)] at s4
                      have hck : ch k2 < 2 ^ 31 := by
                        obtain ⟨i, g1, g2, g3, g4, g5⟩ := hA2 k2 (by omega)
                        omega
                      refine lv_aload_n hx hb d_Mod_near_160 rfl (lv_at hl 4 rfl) ?_
                      refine va_get (D := (dC, dI)) (ci := 1) (v := .ref ac) (C := R_Mod) (T := F_Mod) (N := 16) hx hb hts hin_Mod hown hK hP 0 rfl rfl 6 (by decide) (hts _ (nw_mc 181 rfl)) (fun _ h9 => h9) rfl d_Mod_near_161 ?_
                      refine lv_iload hx hb d_Mod_near_164 (lv_at hl 0 rfl) ?_
                      refine nw_iald hx hb hK hP 5 1 rfl rfl (k := k2) (by omega) (by first | decide | omega) d_Mod_near_166 ?_
                      refine lv_iload hx hb d_Mod_near_167 (lv_at hl 1 rfl) ?_
                      refine lv_icmp_eq hx hb d_Mod_near_169 (tgt := 175) (by decide) (fun s5 => ?_) (fun s5 => ?_)
                      · rw [nI_eq (by omega) (by omega)] at s5
                        exact absurd ((hA5 k2 w (by omega) s5).2.1.symm.trans htw) (by omega)
                      · rw [nI_eq (by omega) (by omega)] at s5
                        refine lv_goto hx hb d_Mod_near_172 (tgt := 202) (by decide) ?_
                        refine lv_iinc (v := nI (k2 + 1)) hx hb d_Mod_near_202 hl (k := 0) rfl (nI_add k2 1) (by decide) rfl (fun ls hl => ?_)
                        have hl : lv_has ls 6 [(5, .int (nI (k2 + 1))), (4, .int (nI w)), (3, .int (nI fo)), (2, .int (nI isz)), (0, .ref hM), (1, .int (nI ms))] := hl
                        refine lv_goto hx hb d_Mod_near_205 (tgt := 154) (by decide) ?_
                        exact ih5 (k2 + 1) (⟨by omega, by omega⟩) (show fo - (k2 + 1) < fo - k2 by omega) _ _ _ hl hP hD hS
                  · rw [nI_eq (by omega) (by omega)] at s3
                    have hk9 : k ≠ tw := fun h => s3 (by rw [h]; exact hcw)
                    refine lv_goto hx hb d_Mod_near_172 (tgt := 202) (by decide) ?_
                    refine lv_iinc (v := nI (k + 1)) hx hb d_Mod_near_202 hl (k := 0) rfl (nI_add k 1) (by decide) rfl (fun ls hl => ?_)
                    have hl : lv_has ls 6 [(5, .int (nI (k + 1))), (4, .int (nI w)), (3, .int (nI fo)), (2, .int (nI isz)), (0, .ref hM), (1, .int (nI ms))] := hl
                    refine lv_goto hx hb d_Mod_near_205 (tgt := 154) (by decide) ?_
                    exact ih4 (k + 1) (by omega) (show tw - (k + 1) < tw - k by omega) _ _ _ hl hP hD hS
              · refine nw_loopW (σ := Nat) (fun k => k ≤ fo) (fun k => [(5, .int (nI k)), (4, .int (nI w)), (3, .int (nI fo)), (2, .int (nI isz)), (0, .ref hM), (1, .int (nI ms))]) (fun k => [(hM, .inr (1, [.ref ai, .ref aw, .ref ar, .ref al, .ref aL, .ref aD, .ref ac, .ref af, .ref ap, .ref an, .ref ax, .int (nI 0), .int (nI wn), .int (nI chn), .int (nI (nw_cnt (nw_sl E wn ms) w)), .int (nI 0)])), (ai, nw_ai cB 60 I), (aw, nw_ai cB 60000 X), (al, nw_ai cI 1000 Ln), (ap, nw_ai cI 3721 st), (ac, nw_ai cI 50 ch), (af, nw_ai cI 50 fa), (ar, nw_ai cB 3000 y), (aL, nw_ai cI 50 rl), (aD, nw_ai cI 50 rd)]) (fun k => fo - k) (fun x hA7 ih4 ls H locs hl hP hD hS => ?_) 0 (Nat.zero_le _) hl hP hD hS
                obtain ⟨k, hx9⟩ : ∃ z, z = x := ⟨x, rfl⟩
                subst hx9
                replace hA7 : k ≤ fo := hA7
                replace hl : lv_has ls 6 [(5, .int (nI k)), (4, .int (nI w)), (3, .int (nI fo)), (2, .int (nI isz)), (0, .ref hM), (1, .int (nI ms))] := hl
                replace hP : va_P (dC, dI) nw_cls [(hM, .inr (1, [.ref ai, .ref aw, .ref ar, .ref al, .ref aL, .ref aD, .ref ac, .ref af, .ref ap, .ref an, .ref ax, .int (nI 0), .int (nI wn), .int (nI chn), .int (nI (nw_cnt (nw_sl E wn ms) w)), .int (nI 0)])), (ai, nw_ai cB 60 I), (aw, nw_ai cB 60000 X), (al, nw_ai cI 1000 Ln), (ap, nw_ai cI 3721 st), (ac, nw_ai cI 50 ch), (af, nw_ai cI 50 fa), (ar, nw_ai cB 3000 y), (aL, nw_ai cI 50 rl), (aD, nw_ai cI 50 rd)] H := hP
                replace hD : va_D A [(hM, .inr (1, [.ref ai, .ref aw, .ref ar, .ref al, .ref aL, .ref aD, .ref ac, .ref af, .ref ap, .ref an, .ref ax, .int (nI 0), .int (nI wn), .int (nI chn), .int (nI (nw_cnt (nw_sl E wn ms) w)), .int (nI 0)])), (ai, nw_ai cB 60 I), (aw, nw_ai cB 60000 X), (al, nw_ai cI 1000 Ln), (ap, nw_ai cI 3721 st), (ac, nw_ai cI 50 ch), (af, nw_ai cI 50 fa), (ar, nw_ai cB 3000 y), (aL, nw_ai cI 50 rl), (aD, nw_ai cI 50 rd)] := hD
                refine lv_iload hx hb d_Mod_near_154 (lv_at hl 0 rfl) ?_
                refine lv_iload_n hx hb d_Mod_near_156 rfl (lv_at hl 2 rfl) ?_
                refine lv_icmp_ge hx hb d_Mod_near_157 (tgt := 208) (by decide) (fun s2 => ?_) (fun s2 => ?_)
                · rw [nI_leI (by omega) (by omega)] at s2
                  rw [← nw_cnt_neg hsw] at hP hD
                  refine lv_iinc (v := nI (w + 1)) hx hb d_Mod_near_208 hl (k := 1) rfl (nI_add w 1) (by decide) rfl (fun ls hl => ?_)
                  have hl : lv_has ls 6 [(4, .int (nI (w + 1))), (5, .int (nI k)), (3, .int (nI fo)), (2, .int (nI isz)), (0, .ref hM), (1, .int (nI ms))] := hl
                  refine lv_goto hx hb d_Mod_near_211 (tgt := 142) (by decide) ?_
                  exact ih3 (w + 1, y, rl, rd) (⟨by omega, nw_kp_no hkp hsw, hy⟩) (show wn - (w + 1) < wn - w by omega) _ _ _ (lv_sub hl [0, 2, 3, 4, 5] rfl) hP hD hS
                · rw [nI_leI (by omega) (by omega)] at s2
                  have hck : ch k < 2 ^ 31 := by
                    obtain ⟨i, g1, g2, g3, g4, g5⟩ := hA2 k (by omega)
                    omega
                  refine lv_aload_n hx hb d_Mod_near_160 rfl (lv_at hl 4 rfl) ?_
                  refine va_get (D := (dC, dI)) (ci := 1) (v := .ref ac) (C := R_Mod) (T := F_Mod) (N := 16) hx hb hts hin_Mod hown hK hP 0 rfl rfl 6 (by decide) (hts _ (nw_mc 181 rfl)) (fun _ h9 => h9) rfl d_Mod_near_161 ?_
                  refine lv_iload hx hb d_Mod_near_164 (lv_at hl 0 rfl) ?_
                  refine nw_iald hx hb hK hP 5 1 rfl rfl (k := k) (by omega) (by first | decide | omega) d_Mod_near_166 ?_
                  refine lv_iload hx hb d_Mod_near_167 (lv_at hl 1 rfl) ?_
                  refine lv_icmp_eq hx hb d_Mod_near_169 (tgt := 175) (by decide) (fun s3 => ?_) (fun s3 => ?_)
                  · rw [nI_eq (by omega) (by omega)] at s3
                    exact absurd (hA5 k w (by omega) s3).1 hsw
                  · rw [nI_eq (by omega) (by omega)] at s3
                    refine lv_goto hx hb d_Mod_near_172 (tgt := 202) (by decide) ?_
                    refine lv_iinc (v := nI (k + 1)) hx hb d_Mod_near_202 hl (k := 0) rfl (nI_add k 1) (by decide) rfl (fun ls hl => ?_)
                    have hl : lv_has ls 6 [(5, .int (nI (k + 1))), (4, .int (nI w)), (3, .int (nI fo)), (2, .int (nI isz)), (0, .ref hM), (1, .int (nI ms))] := hl
                    refine lv_goto hx hb d_Mod_near_205 (tgt := 154) (by decide) ?_
                    exact ih4 (k + 1) (by omega) (show fo - (k + 1) < fo - k by omega) _ _ _ hl hP hD hS
          · rw [nI_ltI (by omega) (by omega)] at q5
            refine lv_iconst (v := nI 0) hx hb d_Mod_near_47 (by decide) ?_
            refine lv_istore hx hb d_Mod_near_48 hl (by decide) rfl (fun ls hl => ?_)
            replace hl : lv_has ls 6 [(5, .int (nI 0)), (4, .int (nI d)), (3, .int (nI fo)), (2, .int (nI isz)), (0, .ref hM), (1, .int (nI ms))] := hl
            refine nw_loopW (σ := Nat × Nat × (Nat → Nat) × (Nat → Nat) × (Nat → Nat)) (fun x => match x with | (w, fo, st, ch, fa) => w ≤ wn ∧ fo = min 50 (nw_T E wn d w) ∧ (∀ k, k < fo → ∃ i, i < wn ∧ E i ≤ ms ∧ nw_T E wn (E i) i = k ∧ ch k = i ∧ fa k = E i) ∧ (∀ i, i < wn → E i ≤ ms → (E i < d ∨ (E i = d ∧ i < w)) → nw_T E wn (E i) i < 50 → nw_T E wn (E i) i < fo)) (fun x => match x with | (w, fo, st, ch, fa) => [(5, .int (nI w)), (4, .int (nI d)), (3, .int (nI fo)), (2, .int (nI isz)), (0, .ref hM), (1, .int (nI ms))]) (fun x => match x with | (w, fo, st, ch, fa) => [(hM, .inr (1, [.ref ai, .ref aw, .ref ar, .ref al, .ref aL, .ref aD, .ref ac, .ref af, .ref ap, .ref an, .ref ax, .int (nI 0), .int (nI wn), .int (nI chn), .int (nI rn), .int (nI 0)])), (ai, nw_ai cB 60 I), (aw, nw_ai cB 60000 X), (al, nw_ai cI 1000 Ln), (ap, nw_ai cI 3721 st), (ac, nw_ai cI 50 ch), (af, nw_ai cI 50 fa), (ar, nw_ai cB 3000 Y), (aL, nw_ai cI 50 RL), (aD, nw_ai cI 50 RD)]) (fun x => match x with | (w, fo, st, ch, fa) => wn - w) (fun x hA3 ih2 ls H locs hl hP hD hS => ?_) (0, fo, st, ch, fa) (⟨Nat.zero_le _, hfo, hA2, fun i h2 h3 h4 => hB2 i h2 h3 (by omega)⟩) hl hP hD hS
            obtain ⟨w, fo, st, ch, fa⟩ := x
            replace hA3 : w ≤ wn ∧ fo = min 50 (nw_T E wn d w) ∧ (∀ k, k < fo → ∃ i, i < wn ∧ E i ≤ ms ∧ nw_T E wn (E i) i = k ∧ ch k = i ∧ fa k = E i) ∧ (∀ i, i < wn → E i ≤ ms → (E i < d ∨ (E i = d ∧ i < w)) → nw_T E wn (E i) i < 50 → nw_T E wn (E i) i < fo) := hA3
            replace hl : lv_has ls 6 [(5, .int (nI w)), (4, .int (nI d)), (3, .int (nI fo)), (2, .int (nI isz)), (0, .ref hM), (1, .int (nI ms))] := hl
            replace hP : va_P (dC, dI) nw_cls [(hM, .inr (1, [.ref ai, .ref aw, .ref ar, .ref al, .ref aL, .ref aD, .ref ac, .ref af, .ref ap, .ref an, .ref ax, .int (nI 0), .int (nI wn), .int (nI chn), .int (nI rn), .int (nI 0)])), (ai, nw_ai cB 60 I), (aw, nw_ai cB 60000 X), (al, nw_ai cI 1000 Ln), (ap, nw_ai cI 3721 st), (ac, nw_ai cI 50 ch), (af, nw_ai cI 50 fa), (ar, nw_ai cB 3000 Y), (aL, nw_ai cI 50 RL), (aD, nw_ai cI 50 RD)] H := hP
            replace hD : va_D A [(hM, .inr (1, [.ref ai, .ref aw, .ref ar, .ref al, .ref aL, .ref aD, .ref ac, .ref af, .ref ap, .ref an, .ref ax, .int (nI 0), .int (nI wn), .int (nI chn), .int (nI rn), .int (nI 0)])), (ai, nw_ai cB 60 I), (aw, nw_ai cB 60000 X), (al, nw_ai cI 1000 Ln), (ap, nw_ai cI 3721 st), (ac, nw_ai cI 50 ch), (af, nw_ai cI 50 fa), (ar, nw_ai cB 3000 Y), (aL, nw_ai cI 50 RL), (aD, nw_ai cI 50 RD)] := hD
            obtain ⟨hw1, hfo2, hA4, hB4⟩ := hA3
            refine lv_iload hx hb d_Mod_near_50 (lv_at hl 0 rfl) ?_
            refine lv_aload_n hx hb d_Mod_near_52 rfl (lv_at hl 4 rfl) ?_
            refine va_get (D := (dC, dI)) (ci := 1) (v := .int (nI wn)) (C := R_Mod) (T := F_Mod) (N := 16) hx hb hts hin_Mod hown hK hP 0 rfl rfl 12 (by decide) (hts _ (nw_mc 193 rfl)) (fun _ h9 => h9) rfl d_Mod_near_53 ?_
            refine lv_icmp_ge hx hb d_Mod_near_56 (tgt := 128) (by decide) (fun q6 => ?_) (fun q6 => ?_)
            · rw [nI_leI (by omega) (by omega)] at q6
              refine lv_iinc (v := nI (d + 1)) hx hb d_Mod_near_128 hl (k := 1) rfl (nI_add d 1) (by decide) rfl (fun ls hl => ?_)
              have hl : lv_has ls 6 [(4, .int (nI (d + 1))), (5, .int (nI w)), (3, .int (nI fo)), (2, .int (nI isz)), (0, .ref hM), (1, .int (nI ms))] := hl
              refine lv_goto hx hb d_Mod_near_131 (tgt := 41) (by decide) ?_
              exact ih1 (d + 1, fo, st, ch, fa) (⟨by omega, by rw [nw_T_0, hfo2, show w = wn by omega], hA4, fun i h2 h3 h4 => hB4 i h2 h3 (by omega)⟩) (show ms + 1 - (d + 1) < ms + 1 - d by omega) _ _ _ (lv_sub hl [0, 2, 3, 4, 5] rfl) hP hD hS
            · rw [nI_leI (by omega) (by omega)] at q6
              refine lv_iload_n hx hb d_Mod_near_59 rfl (lv_at hl 2 rfl) ?_
              refine lv_bipush (v := nI 50) hx hb d_Mod_near_60 (by decide) ?_
              refine lv_icmp_ge hx hb d_Mod_near_62 (tgt := 128) (by decide) (fun q7 => ?_) (fun q7 => ?_)
              · rw [nI_leI (by omega) (by omega)] at q7
                refine lv_iinc (v := nI (d + 1)) hx hb d_Mod_near_128 hl (k := 1) rfl (nI_add d 1) (by decide) rfl (fun ls hl => ?_)
                have hl : lv_has ls 6 [(4, .int (nI (d + 1))), (5, .int (nI w)), (3, .int (nI fo)), (2, .int (nI isz)), (0, .ref hM), (1, .int (nI ms))] := hl
                refine lv_goto hx hb d_Mod_near_131 (tgt := 41) (by decide) ?_
                exact ih1 (d + 1, fo, st, ch, fa) (⟨by omega, by have := nw_T_mono E wn d (i := w) (j := wn) (by omega); rw [nw_T_0]; omega, hA4, fun i h2 h3 h4 h5 => by
                  by_cases hc : E i < d ∨ (E i = d ∧ i < w)
                  · exact hB4 i h2 h3 hc h5
                  · have e9 : E i = d := by omega
                    have := nw_T_mono E wn d (i := w) (j := i) (by omega)
                    rw [e9] at h5; omega⟩) (show ms + 1 - (d + 1) < ms + 1 - d by omega) _ _ _ (lv_sub hl [0, 2, 3, 4, 5] rfl) hP hD hS
              · rw [nI_leI (by omega) (by omega)] at q7
                have hlw := hL w (by omega)
                have hlw1 := hL1 w (by omega)
                refine lv_aload_n hx hb d_Mod_near_65 rfl (lv_at hl 4 rfl) ?_
                refine lv_iload hx hb d_Mod_near_66 (lv_at hl 0 rfl) ?_
                refine lv_iload_n hx hb d_Mod_near_68 rfl (lv_at hl 3 rfl) ?_
                refine nw_calli (wc := [(hM, .inr (1, [.ref ai, .ref aw, .ref ar, .ref al, .ref aL, .ref aD, .ref ac, .ref af, .ref ap, .ref an, .ref ax, .int (nI 0), .int (nI wn), .int (nI chn), .int (nI rn), .int (nI 0)])), (ai, nw_ai cB 60 I), (aw, nw_ai cB 60000 X), (al, nw_ai cI 1000 Ln), (ap, nw_ai cI 3721 st)]) (wr := [(ac, nw_ai cI 50 ch), (af, nw_ai cI 50 fa), (ar, nw_ai cB 3000 Y), (aL, nw_ai cI 50 RL), (aD, nw_ai cI 50 RD)]) hP hD hS hA [0, 1, 2, 3, 4] [5, 6, 7, 8, 9] rfl rfl (by decide) (by decide) (va_runV (As := [.int (nI w), .int (nI isz)]) (rest := []) ⟨hx, hb, hml, hown, hts⟩ (c_Mod_steps l dC dI _ cB cI hM ai aw ar al aL aD ac af ap an ax 0 wn chn rn 0 I X Ln st w isz (by omega) (by omega) hlw hX hI0) (cwV (C := R_Mod) 2 hts (nw_GV (nw_m 211 rfl) (nw_m 212 rfl) (nw_m 213 rfl) (nw_m 191 rfl) (nw_m 214 rfl)) rfl rfl rfl (by decide +kernel) ⟨Nat.le_of_ble_eq_true rfl, Nat.le_of_ble_eq_true rfl⟩) (nw_prewV (q0 := 0) (ci := 1) (q := (R_Mod, F_Mod, 16)) hK hP hD [0, 1, 2, 3, 4] [0, 1] (by decide) rfl rfl rfl rfl) rfl rfl hl.1 rfl (lv_room (Nat.le_of_ble_eq_true rfl)) d_Mod_near_69 ⟨Nat.le_of_ble_eq_true rfl, Nat.le_of_ble_eq_true rfl⟩) (fun r u H locs hw hP hD hS => ?_)
                replace hP : va_P (dC, dI) nw_cls [(ac, nw_ai cI 50 ch), (af, nw_ai cI 50 fa), (ar, nw_ai cB 3000 Y), (aL, nw_ai cI 50 RL), (aD, nw_ai cI 50 RD), (hM, .inr (1, [.ref ai, .ref aw, .ref ar, .ref al, .ref aL, .ref aD, .ref ac, .ref af, .ref ap, .ref an, .ref ax, .int (nI 0), .int (nI wn), .int (nI chn), .int (nI rn), .int (nI 0)])), (ai, nw_ai cB 60 I), (aw, nw_ai cB 60000 X), (al, nw_ai cI 1000 Ln), (ap, nw_ai cI 3721 u)] H := hP
                replace hD : va_D A [(ac, nw_ai cI 50 ch), (af, nw_ai cI 50 fa), (ar, nw_ai cB 3000 Y), (aL, nw_ai cI 50 RL), (aD, nw_ai cI 50 RD), (hM, .inr (1, [.ref ai, .ref aw, .ref ar, .ref al, .ref aL, .ref aD, .ref ac, .ref af, .ref ap, .ref an, .ref ax, .int (nI 0), .int (nI wn), .int (nI chn), .int (nI rn), .int (nI 0)])), (ai, nw_ai cB 60 I), (aw, nw_ai cB 60000 X), (al, nw_ai cI 1000 Ln), (ap, nw_ai cI 3721 u)] := hD
                obtain rfl : r = nI (nw_D (fun k => X (w * 60 + k)) I (Ln w) isz) := hw
                have hP := hP.sub (ws' := [(hM, .inr (1, [.ref ai, .ref aw, .ref ar, .ref al, .ref aL, .ref aD, .ref ac, .ref af, .ref ap, .ref an, .ref ax, .int (nI 0), .int (nI wn), .int (nI chn), .int (nI rn), .int (nI 0)])), (ai, nw_ai cB 60 I), (aw, nw_ai cB 60000 X), (al, nw_ai cI 1000 Ln), (ap, nw_ai cI 3721 u), (ac, nw_ai cI 50 ch), (af, nw_ai cI 50 fa), (ar, nw_ai cB 3000 Y), (aL, nw_ai cI 50 RL), (aD, nw_ai cI 50 RD)]) [5, 6, 7, 8, 9, 0, 1, 2, 3, 4] rfl
                have hD := hD.sub (ws' := [(hM, .inr (1, [.ref ai, .ref aw, .ref ar, .ref al, .ref aL, .ref aD, .ref ac, .ref af, .ref ap, .ref an, .ref ax, .int (nI 0), .int (nI wn), .int (nI chn), .int (nI rn), .int (nI 0)])), (ai, nw_ai cB 60 I), (aw, nw_ai cB 60000 X), (al, nw_ai cI 1000 Ln), (ap, nw_ai cI 3721 u), (ac, nw_ai cI 50 ch), (af, nw_ai cI 50 fa), (ar, nw_ai cB 3000 Y), (aL, nw_ai cI 50 RL), (aD, nw_ai cI 50 RD)]) [5, 6, 7, 8, 9, 0, 1, 2, 3, 4] (by decide) rfl
                have hDw := nw_D_add (fun k => X (w * 60 + k)) I (Ln w) isz
                have hEw := nw_E_eq (D := nw_D (fun k => X (w * 60 + k)) I (Ln w) isz) (n := isz) (L := Ln w) (ms := ms) (d := d) (by omega) hms
                rw [← hEi w] at hEw
                refine lv_iload hx hb d_Mod_near_72 (lv_at hl 1 rfl) ?_
                refine lv_icmp_ne hx hb d_Mod_near_74 (tgt := 122) (by decide) (fun q8 => ?_) (fun q8 => ?_)
                · rw [nI_eq (by omega) (by omega)] at q8
                  have hne : ¬ E w = d := fun h => q8 (hEw.mp h).1
                  refine lv_iinc (v := nI (w + 1)) hx hb d_Mod_near_122 hl (k := 0) rfl (nI_add w 1) (by decide) rfl (fun ls hl => ?_)
                  have hl : lv_has ls 6 [(5, .int (nI (w + 1))), (4, .int (nI d)), (3, .int (nI fo)), (2, .int (nI isz)), (0, .ref hM), (1, .int (nI ms))] := hl
                  refine lv_goto hx hb d_Mod_near_125 (tgt := 50) (by decide) ?_
                  exact ih2 (w + 1, fo, u, ch, fa) (⟨by omega, by rw [nw_T_neg hne]; exact hfo2, hA4, fun i h2 h3 h4 => hB4 i h2 h3 (by
                    rcases h4 with h4 | h4
                    · exact Or.inl h4
                    · refine Or.inr ⟨h4.1, ?_⟩
                      by_cases e9 : i = w
                      · rw [e9] at h4; exact absurd h4.1 hne
                      · omega)⟩) (show wn - (w + 1) < wn - w by omega) _ _ _ hl hP hD hS
                · rw [nI_eq (by omega) (by omega)] at q8
                  refine lv_iload hx hb d_Mod_near_77 (lv_at hl 1 rfl) ?_
                  refine lv_if_le hx hb d_Mod_near_79 (tgt := 103) (by decide) (fun q9 => ?_) (fun q9 => ?_)
                  · rw [nw_le0 (by omega)] at q9
                    have hyes : E w = d := hEw.mpr ⟨q8, by omega, by omega⟩
                    have hTw : nw_T E wn d w = fo := by omega
                    refine lv_aload_n hx hb d_Mod_near_103 rfl (lv_at hl 4 rfl) ?_
                    refine va_get (D := (dC, dI)) (ci := 1) (v := .ref ac) (C := R_Mod) (T := F_Mod) (N := 16) hx hb hts hin_Mod hown hK hP 0 rfl rfl 6 (by decide) (hts _ (nw_mc 181 rfl)) (fun _ h9 => h9) rfl d_Mod_near_104 ?_
                    refine lv_iload_n hx hb d_Mod_near_107 rfl (lv_at hl 2 rfl) ?_
                    refine lv_iload hx hb d_Mod_near_108 (lv_at hl 0 rfl) ?_
                    refine nw_iast hx hb hK hP hD hS 5 1 rfl rfl (k := fo) (v := w) (by omega) (by first | decide | omega) d_Mod_near_110 (fun H locs hP hD hS => ?_)
                    replace hP : va_P (dC, dI) nw_cls [(hM, .inr (1, [.ref ai, .ref aw, .ref ar, .ref al, .ref aL, .ref aD, .ref ac, .ref af, .ref ap, .ref an, .ref ax, .int (nI 0), .int (nI wn), .int (nI chn), .int (nI rn), .int (nI 0)])), (ai, nw_ai cB 60 I), (aw, nw_ai cB 60000 X), (al, nw_ai cI 1000 Ln), (ap, nw_ai cI 3721 u), (ac, nw_ai cI 50 (va_up ch fo w)), (af, nw_ai cI 50 fa), (ar, nw_ai cB 3000 Y), (aL, nw_ai cI 50 RL), (aD, nw_ai cI 50 RD)] H := hP
                    replace hD : va_D A [(hM, .inr (1, [.ref ai, .ref aw, .ref ar, .ref al, .ref aL, .ref aD, .ref ac, .ref af, .ref ap, .ref an, .ref ax, .int (nI 0), .int (nI wn), .int (nI chn), .int (nI rn), .int (nI 0)])), (ai, nw_ai cB 60 I), (aw, nw_ai cB 60000 X), (al, nw_ai cI 1000 Ln), (ap, nw_ai cI 3721 u), (ac, nw_ai cI 50 (va_up ch fo w)), (af, nw_ai cI 50 fa), (ar, nw_ai cB 3000 Y), (aL, nw_ai cI 50 RL), (aD, nw_ai cI 50 RD)] := hD
                    refine lv_aload_n hx hb d_Mod_near_111 rfl (lv_at hl 4 rfl) ?_
                    refine va_get (D := (dC, dI)) (ci := 1) (v := .ref af) (C := R_Mod) (T := F_Mod) (N := 16) hx hb hts hin_Mod hown hK hP 0 rfl rfl 7 (by decide) (hts _ (nw_mc 182 rfl)) (fun _ h9 => h9) rfl d_Mod_near_112 ?_
                    refine lv_iload_n hx hb d_Mod_near_115 rfl (lv_at hl 2 rfl) ?_
                    refine lv_iload hx hb d_Mod_near_116 (lv_at hl 1 rfl) ?_
                    refine nw_iast hx hb hK hP hD hS 6 1 rfl rfl (k := fo) (v := d) (by omega) (by first | decide | omega) d_Mod_near_118 (fun H locs hP hD hS => ?_)
                    replace hP : va_P (dC, dI) nw_cls [(hM, .inr (1, [.ref ai, .ref aw, .ref ar, .ref al, .ref aL, .ref aD, .ref ac, .ref af, .ref ap, .ref an, .ref ax, .int (nI 0), .int (nI wn), .int (nI chn), .int (nI rn), .int (nI 0)])), (ai, nw_ai cB 60 I), (aw, nw_ai cB 60000 X), (al, nw_ai cI 1000 Ln), (ap, nw_ai cI 3721 u), (ac, nw_ai cI 50 (va_up ch fo w)), (af, nw_ai cI 50 (va_up fa fo d)), (ar, nw_ai cB 3000 Y), (aL, nw_ai cI 50 RL), (aD, nw_ai cI 50 RD)] H := hP
                    replace hD : va_D A [(hM, .inr (1, [.ref ai, .ref aw, .ref ar, .ref al, .ref aL, .ref aD, .ref ac, .ref af, .ref ap, .ref an, .ref ax, .int (nI 0), .int (nI wn), .int (nI chn), .int (nI rn), .int (nI 0)])), (ai, nw_ai cB 60 I), (aw, nw_ai cB 60000 X), (al, nw_ai cI 1000 Ln), (ap, nw_ai cI 3721 u), (ac, nw_ai cI 50 (va_up ch fo w)), (af, nw_ai cI 50 (va_up fa fo d)), (ar, nw_ai cB 3000 Y), (aL, nw_ai cI 50 RL), (aD, nw_ai cI 50 RD)] := hD
                    refine lv_iinc (v := nI (fo + 1)) hx hb d_Mod_near_119 hl (k := 2) rfl (nI_add fo 1) (by decide) rfl (fun ls hl => ?_)
                    have hl : lv_has ls 6 [(3, .int (nI (fo + 1))), (5, .int (nI w)), (4, .int (nI d)), (2, .int (nI isz)), (0, .ref hM), (1, .int (nI ms))] := hl
                    refine lv_iinc (v := nI (w + 1)) hx hb d_Mod_near_122 hl (k := 1) rfl (nI_add w 1) (by decide) rfl (fun ls hl => ?_)
                    have hl : lv_has ls 6 [(5, .int (nI (w + 1))), (3, .int (nI (fo + 1))), (4, .int (nI d)), (2, .int (nI isz)), (0, .ref hM), (1, .int (nI ms))] := hl
                    refine lv_goto hx hb d_Mod_near_125 (tgt := 50) (by decide) ?_
                    exact ih2 (w + 1, fo + 1, u, va_up ch fo w, va_up fa fo d) (⟨by omega, by rw [nw_T_pos hyes]; omega, fun k hk => by
                      by_cases e9 : k = fo
                      · exact ⟨w, by omega, by omega, by rw [hyes, hTw, e9], by rw [e9, va_up_self], by rw [e9, va_up_self, hyes]⟩
                      · obtain ⟨i, g1, g2, g3, g4, g5⟩ := hA4 k (by omega)
                        exact ⟨i, g1, g2, g3, by rw [va_up_ne _ _ e9]; exact g4, by rw [va_up_ne _ _ e9]; exact g5⟩, fun i h2 h3 h4 h5 => by
                      by_cases hc : E i < d ∨ (E i = d ∧ i < w)
                      · have := hB4 i h2 h3 hc h5; omega
                      · have e9 : i = w := by omega
                        rw [e9, hyes, hTw]; omega⟩) (show wn - (w + 1) < wn - w by omega) _ _ _ (lv_sub hl [0, 2, 1, 3, 4, 5] rfl) hP hD hS
                  · rw [nw_le0 (by omega)] at q9
                    refine lv_iload hx hb d_Mod_near_82 (lv_at hl 1 rfl) ?_
                    refine lv_iload_n hx hb d_Mod_near_84 rfl (lv_at hl 3 rfl) ?_
                    refine lv_icmp_ge hx hb d_Mod_near_85 (tgt := 122) (by decide) (fun r1 => ?_) (fun r1 => ?_)
                    · rw [nI_leI (by omega) (by omega)] at r1
                      have hne : ¬ E w = d := fun h => by have := (hEw.mp h).2.1; omega
                      refine lv_iinc (v := nI (w + 1)) hx hb d_Mod_near_122 hl (k := 0) rfl (nI_add w 1) (by decide) rfl (fun ls hl => ?_)
                      have hl : lv_has ls 6 [(5, .int (nI (w + 1))), (4, .int (nI d)), (3, .int (nI fo)), (2, .int (nI isz)), (0, .ref hM), (1, .int (nI ms))] := hl
                      refine lv_goto hx hb d_Mod_near_125 (tgt := 50) (by decide) ?_
                      exact ih2 (w + 1, fo, u, ch, fa) (⟨by omega, by rw [nw_T_neg hne]; exact hfo2, hA4, fun i h2 h3 h4 => hB4 i h2 h3 (by
                        rcases h4 with h4 | h4
                        · exact Or.inl h4
                        · refine Or.inr ⟨h4.1, ?_⟩
                          by_cases e9 : i = w
                          · rw [e9] at h4; exact absurd h4.1 hne
                          · omega)⟩) (show wn - (w + 1) < wn - w by omega) _ _ _ hl hP hD hS
                    · rw [nI_leI (by omega) (by omega)] at r1
                      refine lv_iload hx hb d_Mod_near_88 (lv_at hl 1 rfl) ?_
                      refine lv_aload_n hx hb d_Mod_near_90 rfl (lv_at hl 4 rfl) ?_
                      refine va_get (D := (dC, dI)) (ci := 1) (v := .ref al) (C := R_Mod) (T := F_Mod) (N := 16) hx hb hts hin_Mod hown hK hP 0 rfl rfl 3 (by decide) (hts _ (nw_mc 178 rfl)) (fun _ h9 => h9) rfl d_Mod_near_91 ?_
                      refine lv_iload hx hb d_Mod_near_94 (lv_at hl 0 rfl) ?_
                      refine nw_iald hx hb hK hP 3 1 rfl rfl (k := w) (by omega) (by first | decide | omega) d_Mod_near_96 ?_
                      refine lv_icmp_lt hx hb d_Mod_near_97 (tgt := 103) (by decide) (fun r2 => ?_) (fun r2 => ?_)
                      · rw [nI_ltI (by omega) (by omega)] at r2
                        have hyes : E w = d := hEw.mpr ⟨q8, by omega, by omega⟩
                        have hTw : nw_T E wn d w = fo := by omega
                        refine lv_aload_n hx hb d_Mod_near_103 rfl (lv_at hl 4 rfl) ?_
                        refine va_get (D := (dC, dI)) (ci := 1) (v := .ref ac) (C := R_Mod) (T := F_Mod) (N := 16) hx hb hts hin_Mod hown hK hP 0 rfl rfl 6 (by decide) (hts _ (nw_mc 181 rfl)) (fun _ h9 => h9) rfl d_Mod_near_104 ?_
                        refine lv_iload_n hx hb d_Mod_near_107 rfl (lv_at hl 2 rfl) ?_
                        refine lv_iload hx hb d_Mod_near_108 (lv_at hl 0 rfl) ?_
                        refine nw_iast hx hb hK hP hD hS 5 1 rfl rfl (k := fo) (v := w) (by omega) (by first | decide | omega) d_Mod_near_110 (fun H locs hP hD hS => ?_)
                        replace hP : va_P (dC, dI) nw_cls [(hM, .inr (1, [.ref ai, .ref aw, .ref ar, .ref al, .ref aL, .ref aD, .ref ac, .ref af, .ref ap, .ref an, .ref ax, .int (nI 0), .int (nI wn), .int (nI chn), .int (nI rn), .int (nI 0)])), (ai, nw_ai cB 60 I), (aw, nw_ai cB 60000 X), (al, nw_ai cI 1000 Ln), (ap, nw_ai cI 3721 u), (ac, nw_ai cI 50 (va_up ch fo w)), (af, nw_ai cI 50 fa), (ar, nw_ai cB 3000 Y), (aL, nw_ai cI 50 RL), (aD, nw_ai cI 50 RD)] H := hP
                        replace hD : va_D A [(hM, .inr (1, [.ref ai, .ref aw, .ref ar, .ref al, .ref aL, .ref aD, .ref ac, .ref af, .ref ap, .ref an, .ref ax, .int (nI 0), .int (nI wn), .int (nI chn), .int (nI rn), .int (nI 0)])), (ai, nw_ai cB 60 I), (aw, nw_ai cB 60000 X), (al, nw_ai cI 1000 Ln), (ap, nw_ai cI 3721 u), (ac, nw_ai cI 50 (va_up ch fo w)), (af, nw_ai cI 50 fa), (ar, nw_ai cB 3000 Y), (aL, nw_ai cI 50 RL), (aD, nw_ai cI 50 RD)] := hD
                        refine lv_aload_n hx hb d_Mod_near_111 rfl (lv_at hl 4 rfl) ?_
                        refine va_get (D := (dC, dI)) (ci := 1) (v := .ref af) (C := R_Mod) (T := F_Mod) (N := 16) hx hb hts hin_Mod hown hK hP 0 rfl rfl 7 (by decide) (hts _ (nw_mc 182 rfl)) (fun _ h9 => h9) rfl d_Mod_near_112 ?_
                        refine lv_iload_n hx hb d_Mod_near_115 rfl (lv_at hl 2 rfl) ?_
                        refine lv_iload hx hb d_Mod_near_116 (lv_at hl 1 rfl) ?_
                        refine nw_iast hx hb hK hP hD hS 6 1 rfl rfl (k := fo) (v := d) (by omega) (by first | decide | omega) d_Mod_near_118 (fun H locs hP hD hS => ?_)
                        replace hP : va_P (dC, dI) nw_cls [(hM, .inr (1, [.ref ai, .ref aw, .ref ar, .ref al, .ref aL, .ref aD, .ref ac, .ref af, .ref ap, .ref an, .ref ax, .int (nI 0), .int (nI wn), .int (nI chn), .int (nI rn), .int (nI 0)])), (ai, nw_ai cB 60 I), (aw, nw_ai cB 60000 X), (al, nw_ai cI 1000 Ln), (ap, nw_ai cI 3721 u), (ac, nw_ai cI 50 (va_up ch fo w)), (af, nw_ai cI 50 (va_up fa fo d)), (ar, nw_ai cB 3000 Y), (aL, nw_ai cI 50 RL), (aD, nw_ai cI 50 RD)] H := hP
                        replace hD : va_D A [(hM, .inr (1, [.ref ai, .ref aw, .ref ar, .ref al, .ref aL, .ref aD, .ref ac, .ref af, .ref ap, .ref an, .ref ax, .int (nI 0), .int (nI wn), .int (nI chn), .int (nI rn), .int (nI 0)])), (ai, nw_ai cB 60 I), (aw, nw_ai cB 60000 X), (al, nw_ai cI 1000 Ln), (ap, nw_ai cI 3721 u), (ac, nw_ai cI 50 (va_up ch fo w)), (af, nw_ai cI 50 (va_up fa fo d)), (ar, nw_ai cB 3000 Y), (aL, nw_ai cI 50 RL), (aD, nw_ai cI 50 RD)] := hD
                        refine lv_iinc (v := nI (fo + 1)) hx hb d_Mod_near_119 hl (k := 2) rfl (nI_add fo 1) (by decide) rfl (fun ls hl => ?_)
                        have hl : lv_has ls 6 [(3, .int (nI (fo + 1))), (5, .int (nI w)), (4, .int (nI d)), (2, .int (nI isz)), (0, .ref hM), (1, .int (nI ms))] := hl
                        refine lv_iinc (v := nI (w + 1)) hx hb d_Mod_near_122 hl (k := 1) rfl (nI_add w 1) (by decide) rfl (fun ls hl => ?_)
                        have hl : lv_has ls 6 [(5, .int (nI (w + 1))), (3, .int (nI (fo + 1))), (4, .int (nI d)), (2, .int (nI isz)), (0, .ref hM), (1, .int (nI ms))] := hl
                        refine lv_goto hx hb d_Mod_near_125 (tgt := 50) (by decide) ?_
                        exact ih2 (w + 1, fo + 1, u, va_up ch fo w, va_up fa fo d) (⟨by omega, by rw [nw_T_pos hyes]; omega, fun k hk => by
                          by_cases e9 : k = fo
                          · exact ⟨w, by omega, by omega, by rw [hyes, hTw, e9], by rw [e9, va_up_self], by rw [e9, va_up_self, hyes]⟩
                          · obtain ⟨i, g1, g2, g3, g4, g5⟩ := hA4 k (by omega)
                            exact ⟨i, g1, g2, g3, by rw [va_up_ne _ _ e9]; exact g4, by rw [va_up_ne _ _ e9]; exact g5⟩, fun i h2 h3 h4 h5 => by
                          by_cases hc : E i < d ∨ (E i = d ∧ i < w)
                          · have := hB4 i h2 h3 hc h5; omega
                          · have e9 : i = w := by omega
                            rw [e9, hyes, hTw]; omega⟩) (show wn - (w + 1) < wn - w by omega) _ _ _ (lv_sub hl [0, 2, 1, 3, 4, 5] rfl) hP hD hS
                      · rw [nI_ltI (by omega) (by omega)] at r2
                        have hne : ¬ E w = d := fun h => by have := (hEw.mp h).2.2; omega
                        refine lv_goto hx hb d_Mod_near_100 (tgt := 122) (by decide) ?_
                        refine lv_iinc (v := nI (w + 1)) hx hb d_Mod_near_122 hl (k := 0) rfl (nI_add w 1) (by decide) rfl (fun ls hl => ?_)
                        have hl : lv_has ls 6 [(5, .int (nI (w + 1))), (4, .int (nI d)), (3, .int (nI fo)), (2, .int (nI isz)), (0, .ref hM), (1, .int (nI ms))] := hl
                        refine lv_goto hx hb d_Mod_near_125 (tgt := 50) (by decide) ?_
                        exact ih2 (w + 1, fo, u, ch, fa) (⟨by omega, by rw [nw_T_neg hne]; exact hfo2, hA4, fun i h2 h3 h4 => hB4 i h2 h3 (by
                          rcases h4 with h4 | h4
                          · exact Or.inl h4
                          · refine Or.inr ⟨h4.1, ?_⟩
                            by_cases e9 : i = w
                            · rw [e9] at h4; exact absurd h4.1 hne
                            · omega)⟩) (show wn - (w + 1) < wn - w by omega) _ _ _ hl hP hD hS
        · rw [nw_eq0 (by omega)] at q4
          omega
      · rw [nw_eq0 (by omega)] at q3
        omega
