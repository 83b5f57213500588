set_option maxHeartbeats 4000000 in
set_option maxRecDepth 100000 in
theorem c_Res_init (l : Launch) (dC : Nat → ClassId) (dI : Nat → Nat → Nat) (sz : Nat) (cB cF cI : ClassId) (h : Nat) : Met l y_Res_init w_Res_init ({ frames := 1, cells := 53, slots := 3150, locals := 12 }) (nw_Pwx (nw_AO .byte) [.ref h] (dC, dI) nw_cls [(cB, .byte), (cF, (.array .byte)), (cI, .int)] [(h, .inr (5, [.null, .null, .null, .int (nI 0)]))] sz) (va_Qv (fun _ : Nat × Nat × Nat × (Nat → Nat) => True) (nw_B (dC, dI) nw_cls (va_A [(h, .inr (5, [.null, .null, .null, .int (nI 0)]))] sz) (fun u => ([(h, .inr (5, [.ref u.1, .ref u.2.1, .ref u.2.2.1, .int (nI 0)])), (u.1, nw_ar cF 50 (fun k => some (u.2.2.2 k))), (u.2.1, nw_ai cI 50 (fun _ => 0)), (u.2.2.1, nw_ai cI 50 (fun _ => 0))] ++ (nw_rb 50 cB 60 u.2.2.2 (fun _ _ => 0) ++ [])))) (va_A [(h, .inr (5, [.null, .null, .null, .int (nI 0)]))] sz)) 53 3150 (va_A [(h, .inr (5, [.null, .null, .null, .int (nI 0)]))] sz) := by
  refine Met.ofW (cc := b_Res_init) (maxL := 1) (ret := none) (by decide) rfl ?_
  intro p e s m args below meth cd s₁ B hml hv0
  obtain ⟨rfl, hsz, hP, hK, hD0, hKx⟩ := hv0
  have hx := B.exec
  have hb := B.bytes
  have hr := B.returns
  have hts := atoms_spec (ws := w_Res_init) B.pre
  have hown : s.vm.findClass R_Res = some m.cls := findClass_of_methodNamed B.named
  have hlocks := B.notSynchronized
  have hin : meth.name = "<init>" := (name_of_methodNamed B.named B.method).1
  subst hsz
  have hD := hD0.self (sz := s.heap.size)
  generalize hAe : va_A [(h, .inr (5, [.null, .null, .null, .int (nI 0)]))] s.heap.size = A at hD ⊢
  have hA : ∀ q : Nat, s.heap.size ≤ q → A q := fun q h => by rw [← hAe]; exact Or.inr h
  have hS : va_S A s.heap s.heap [] := va_S.rf
  have hl := lv_entry ([.ref h]) (n := 1) (Nat.le_of_ble_eq_true rfl)
  rw [lg_entry_eq]
  generalize (lg_sl ([.ref h]) ++ List.replicate (1 - (lg_sl ([.ref h])).length) Slot.unset).toArray = ls at hl ⊢
  have hl : lv_has ls 1 [(0, .ref h)] := hl
  refine lv_aload_n hx hb d_Res_init_0 rfl (lv_at hl 0 rfl) ?_
  refine W.objInit hx hb hown (hts _ (nw_mc 293 rfl)) (hts _ (nw_mc 1 rfl)) (hts _ (nw_mc 2 rfl)) rfl (by rw [hml]; exact hl.1) rfl d_Res_init_1 (Nat.le_of_ble_eq_true rfl) (Nat.le_of_ble_eq_true rfl) ?_
  refine W.eq (g2 := F0 m 4 ls []) rfl ?_
  refine lv_aload_n hx hb d_Res_init_4 rfl (lv_at hl 0 rfl) ?_
  refine lv_bipush (v := nI 50) hx hb d_Res_init_5 (by decide) ?_
  refine lv_bipush (v := nI 60) hx hb d_Res_init_7 (by decide) ?_
  refine nw_mna (ty := .byte) (z := (60, .inl (fun _ => nI 0))) (N := 50) (K := 60) hx hb hown (hts _ (nw_mc 432 rfl)) (va_Nw_over hKx) (hts _ (nw_mc 172 rfl)) hK 1 0 rfl rfl rfl hP hD hS hA (by decide) (by decide) (by decide) (by decide) (by decide) rfl rfl (Nat.le_of_ble_eq_true rfl) (Nat.le_of_ble_eq_true rfl) (fun _ => rfl) d_Res_init_9 (fun q0 r0 H hP hD hS => ?_)
  replace hP : va_P (dC, dI) nw_cls ([(h, .inr (5, [.null, .null, .null, .int (nI 0)])), (q0, nw_ar cF 50 (fun k => some (r0 k)))] ++ (nw_rb 50 cB 60 r0 (fun _ _ => 0) ++ [])) H := hP
  replace hD : va_D A ([(h, .inr (5, [.null, .null, .null, .int (nI 0)])), (q0, nw_ar cF 50 (fun k => some (r0 k)))] ++ (nw_rb 50 cB 60 r0 (fun _ _ => 0) ++ [])) := hD
  refine va_putF (D := (dC, dI)) (ci := 5) (v := .ref q0) (ty := (.array (.array .byte))) (C := R_Res) (T := F_Res) (N := 4) hx hb hts hin_Res t_Res t_Res_ok n_Res hown hK hP hD hS 0 rfl rfl 0 (by decide) (hts _ (nw_mc 294 rfl)) (fun _ h9 => h9) rfl hin rfl (by decide +kernel) rfl rfl (Nat.le_of_ble_eq_true rfl) d_Res_init_13 (fun H locs hP hD hS => ?_)
  replace hP : va_P (dC, dI) nw_cls ([(h, .inr (5, [.ref q0, .null, .null, .int (nI 0)])), (q0, nw_ar cF 50 (fun k => some (r0 k)))] ++ (nw_rb 50 cB 60 r0 (fun _ _ => 0) ++ [])) H := hP
  replace hD : va_D A ([(h, .inr (5, [.ref q0, .null, .null, .int (nI 0)])), (q0, nw_ar cF 50 (fun k => some (r0 k)))] ++ (nw_rb 50 cB 60 r0 (fun _ _ => 0) ++ [])) := hD
  refine lv_aload_n hx hb d_Res_init_16 rfl (lv_at hl 0 rfl) ?_
  refine lv_bipush (v := nI 50) hx hb d_Res_init_17 (by decide) ?_
  refine nw_newa (ty := .int) (a0 := (50, .inl (fun _ => nI 0))) hx hb (hts _ (nw_mc 177 rfl)) rfl hK hP hD hS hA 2 rfl rfl (n := 50) (by decide) (fun _ => rfl) (by decide) (Nat.le_of_ble_eq_true rfl) (Nat.le_of_ble_eq_true rfl) d_Res_init_19 (fun q1 H hP hD hS => ?_)
  have hP := hP.swap
  have hD := hD.swap
  replace hP : va_P (dC, dI) nw_cls ([(h, .inr (5, [.ref q0, .null, .null, .int (nI 0)])), (q0, nw_ar cF 50 (fun k => some (r0 k))), (q1, nw_ai cI 50 (fun _ => 0))] ++ (nw_rb 50 cB 60 r0 (fun _ _ => 0) ++ [])) H := hP
  replace hD : va_D A ([(h, .inr (5, [.ref q0, .null, .null, .int (nI 0)])), (q0, nw_ar cF 50 (fun k => some (r0 k))), (q1, nw_ai cI 50 (fun _ => 0))] ++ (nw_rb 50 cB 60 r0 (fun _ _ => 0) ++ [])) := hD
  refine va_putF (D := (dC, dI)) (ci := 5) (v := .ref q1) (ty := (.array .int)) (C := R_Res) (T := F_Res) (N := 4) hx hb hts hin_Res t_Res t_Res_ok n_Res hown hK hP hD hS 0 rfl rfl 1 (by decide) (hts _ (nw_mc 295 rfl)) (fun _ h9 => h9) rfl hin rfl (by decide +kernel) rfl rfl (Nat.le_of_ble_eq_true rfl) d_Res_init_21 (fun H locs hP hD hS => ?_)
  replace hP : va_P (dC, dI) nw_cls ([(h, .inr (5, [.ref q0, .ref q1, .null, .int (nI 0)])), (q0, nw_ar cF 50 (fun k => some (r0 k))), (q1, nw_ai cI 50 (fun _ => 0))] ++ (nw_rb 50 cB 60 r0 (fun _ _ => 0) ++ [])) H := hP
  replace hD : va_D A ([(h, .inr (5, [.ref q0, .ref q1, .null, .int (nI 0)])), (q0, nw_ar cF 50 (fun k => some (r0 k))), (q1, nw_ai cI 50 (fun _ => 0))] ++ (nw_rb 50 cB 60 r0 (fun _ _ => 0) ++ [])) := hD
  refine lv_aload_n hx hb d_Res_init_24 rfl (lv_at hl 0 rfl) ?_
  refine lv_bipush (v := nI 50) hx hb d_Res_init_25 (by decide) ?_
  refine nw_newa (ty := .int) (a0 := (50, .inl (fun _ => nI 0))) hx hb (hts _ (nw_mc 177 rfl)) rfl hK hP hD hS hA 2 rfl rfl (n := 50) (by decide) (fun _ => rfl) (by decide) (Nat.le_of_ble_eq_true rfl) (Nat.le_of_ble_eq_true rfl) d_Res_init_27 (fun q2 H hP hD hS => ?_)
  have hP := hP.swap
  have hD := hD.swap
  replace hP : va_P (dC, dI) nw_cls ([(h, .inr (5, [.ref q0, .ref q1, .null, .int (nI 0)])), (q0, nw_ar cF 50 (fun k => some (r0 k))), (q1, nw_ai cI 50 (fun _ => 0)), (q2, nw_ai cI 50 (fun _ => 0))] ++ (nw_rb 50 cB 60 r0 (fun _ _ => 0) ++ [])) H := hP
  replace hD : va_D A ([(h, .inr (5, [.ref q0, .ref q1, .null, .int (nI 0)])), (q0, nw_ar cF 50 (fun k => some (r0 k))), (q1, nw_ai cI 50 (fun _ => 0)), (q2, nw_ai cI 50 (fun _ => 0))] ++ (nw_rb 50 cB 60 r0 (fun _ _ => 0) ++ [])) := hD
  refine va_putF (D := (dC, dI)) (ci := 5) (v := .ref q2) (ty := (.array .int)) (C := R_Res) (T := F_Res) (N := 4) hx hb hts hin_Res t_Res t_Res_ok n_Res hown hK hP hD hS 0 rfl rfl 2 (by decide) (hts _ (nw_mc 296 rfl)) (fun _ h9 => h9) rfl hin rfl (by decide +kernel) rfl rfl (Nat.le_of_ble_eq_true rfl) d_Res_init_29 (fun H locs hP hD hS => ?_)
  replace hP : va_P (dC, dI) nw_cls ([(h, .inr (5, [.ref q0, .ref q1, .ref q2, .int (nI 0)])), (q0, nw_ar cF 50 (fun k => some (r0 k))), (q1, nw_ai cI 50 (fun _ => 0)), (q2, nw_ai cI 50 (fun _ => 0))] ++ (nw_rb 50 cB 60 r0 (fun _ _ => 0) ++ [])) H := hP
  replace hD : va_D A ([(h, .inr (5, [.ref q0, .ref q1, .ref q2, .int (nI 0)])), (q0, nw_ar cF 50 (fun k => some (r0 k))), (q1, nw_ai cI 50 (fun _ => 0)), (q2, nw_ai cI 50 (fun _ => 0))] ++ (nw_rb 50 cB 60 r0 (fun _ _ => 0) ++ [])) := hD
  refine lv_aload_n hx hb d_Res_init_32 rfl (lv_at hl 0 rfl) ?_
  refine lv_iconst (v := nI 0) hx hb d_Res_init_33 (by decide) ?_
  refine va_put (D := (dC, dI)) (ci := 5) (v := .int (nI 0)) (ty := .int) (C := R_Res) (T := F_Res) (N := 4) hx hb hts hin_Res t_Res t_Res_ok n_Res hown hK hP hD hS 0 rfl rfl 3 (by decide) (hts _ (nw_mc 297 rfl)) (fun _ h9 => h9) rfl (by decide +kernel) rfl rfl (Nat.le_of_ble_eq_true rfl) d_Res_init_34 (fun H locs hP hD hS => ?_)
  replace hP : va_P (dC, dI) nw_cls ([(h, .inr (5, [.ref q0, .ref q1, .ref q2, .int (nI 0)])), (q0, nw_ar cF 50 (fun k => some (r0 k))), (q1, nw_ai cI 50 (fun _ => 0)), (q2, nw_ai cI 50 (fun _ => 0))] ++ (nw_rb 50 cB 60 r0 (fun _ _ => 0) ++ [])) H := hP
  replace hD : va_D A ([(h, .inr (5, [.ref q0, .ref q1, .ref q2, .int (nI 0)])), (q0, nw_ar cF 50 (fun k => some (r0 k))), (q1, nw_ai cI 50 (fun _ => 0)), (q2, nw_ai cI 50 (fun _ => 0))] ++ (nw_rb 50 cB 60 r0 (fun _ _ => 0) ++ [])) := hD
  refine W.widen (k := 53) (n := 3150) (by decide) (by decide) ?_
  exact W.vret hx hb hr (fun t ht hW => ⟨⟨(q0, q1, q2, r0), rfl, trivial, by rw [ht]; exact hP, hD⟩, hS.F ht⟩) hS.2.2 d_Res_init_37

set_option maxHeartbeats 4000000 in
set_option maxRecDepth 100000 in
theorem c_Met_init (l : Launch) (dC : Nat → ClassId) (dI : Nat → Nat → Nat) (sz : Nat) (cG cJ : ClassId) (h : Nat) : Met l y_Met_init w_Met_init ({ frames := 1, cells := 63, slots := 432, locals := 20 }) (nw_Pwx (nw_AO .long) [.ref h] (dC, dI) nw_cls [(cG, (.array .long)), (cJ, .long)] [(h, .inr (2, [.null, .null, .int (nI 0)]))] sz) (va_Qv (fun u : Nat × Nat × (Nat → Nat) × (Nat → Nat → Nat) => ∀ d, d ≤ 3 → u.2.2.2 0 d = 2 ^ (d + 1) - 1) (nw_B (dC, dI) nw_cls (va_A [(h, .inr (2, [.null, .null, .int (nI 0)]))] sz) (fun u => ([(h, .inr (2, [.ref u.1, .ref u.2.1, .int (nI 0)])), (u.1, nw_al cJ 127 (fun _ => 0)), (u.2.1, nw_ar cG 61 (fun k => some (u.2.2.1 k)))] ++ (nw_rl 61 cJ 4 u.2.2.1 u.2.2.2 ++ [])))) (va_A [(h, .inr (2, [.null, .null, .int (nI 0)]))] sz)) 63 432 (va_A [(h, .inr (2, [.null, .null, .int (nI 0)]))] sz) := by
  refine Met.ofW (cc := b_Met_init) (maxL := 2) (ret := none) (by decide) rfl ?_
  intro p e s m args below meth cd s₁ B hml hv0
  obtain ⟨rfl, hsz, hP, hK, hD0, hKx⟩ := hv0
  have hx := B.exec
  have hb := B.bytes
  have hr := B.returns
  have hts := atoms_spec (ws := w_Met_init) B.pre
  have hown : s.vm.findClass R_Met = some m.cls := findClass_of_methodNamed B.named
  have hlocks := B.notSynchronized
  have hin : meth.name = "<init>" := (name_of_methodNamed B.named B.method).1
  subst hsz
  have hD := hD0.self (sz := s.heap.size)
  generalize hAe : va_A [(h, .inr (2, [.null, .null, .int (nI 0)]))] s.heap.size = A at hD ⊢
  have hA : ∀ q : Nat, s.heap.size ≤ q → A q := fun q h => by rw [← hAe]; exact Or.inr h
  have hS : va_S A s.heap s.heap [] := va_S.rf
  have hl := lv_entry ([.ref h]) (n := 2) (Nat.le_of_ble_eq_true rfl)
  rw [lg_entry_eq]
  generalize (lg_sl ([.ref h]) ++ List.replicate (2 - (lg_sl ([.ref h])).length) Slot.unset).toArray = ls at hl ⊢
  have hl : lv_has ls 2 [(0, .ref h)] := hl
  refine lv_aload_n hx hb d_Met_init_0 rfl (lv_at hl 0 rfl) ?_
  refine W.objInit hx hb hown (hts _ (nw_mc 224 rfl)) (hts _ (nw_mc 1 rfl)) (hts _ (nw_mc 2 rfl)) rfl (by rw [hml]; exact hl.1) rfl d_Met_init_1 (Nat.le_of_ble_eq_true rfl) (Nat.le_of_ble_eq_true rfl) ?_
  refine W.eq (g2 := F0 m 4 ls []) rfl ?_
  refine lv_aload_n hx hb d_Met_init_4 rfl (lv_at hl 0 rfl) ?_
  refine lv_bipush (v := nI 127) hx hb d_Met_init_5 (by decide) ?_
  refine nw_newa (ty := .long) (a0 := (127, .inr (.inl (fun _ => lN 0)))) hx hb (hts _ (nw_mc 225 rfl)) rfl hK hP hD hS hA 1 rfl rfl (n := 127) (by decide) (fun _ => rfl) (by decide) (Nat.le_of_ble_eq_true rfl) (Nat.le_of_ble_eq_true rfl) d_Met_init_7 (fun q0 H hP hD hS => ?_)
  replace hP : va_P (dC, dI) nw_cls [(h, .inr (2, [.null, .null, .int (nI 0)])), (q0, nw_al cJ 127 (fun _ => 0))] H := hP
  replace hD : va_D A [(h, .inr (2, [.null, .null, .int (nI 0)])), (q0, nw_al cJ 127 (fun _ => 0))] := hD
  refine va_putF (D := (dC, dI)) (ci := 2) (v := .ref q0) (ty := (.array .long)) (C := R_Met) (T := F_Met) (N := 3) hx hb hts hin_Met t_Met t_Met_ok n_Met hown hK hP hD hS 0 rfl rfl 0 (by decide) (hts _ (nw_mc 226 rfl)) (fun _ h9 => h9) rfl hin rfl (by decide +kernel) rfl rfl (Nat.le_of_ble_eq_true rfl) d_Met_init_9 (fun H locs hP hD hS => ?_)
  replace hP : va_P (dC, dI) nw_cls [(h, .inr (2, [.ref q0, .null, .int (nI 0)])), (q0, nw_al cJ 127 (fun _ => 0))] H := hP
  replace hD : va_D A [(h, .inr (2, [.ref q0, .null, .int (nI 0)])), (q0, nw_al cJ 127 (fun _ => 0))] := hD
  refine lv_aload_n hx hb d_Met_init_12 rfl (lv_at hl 0 rfl) ?_
  refine lv_bipush (v := nI 61) hx hb d_Met_init_13 (by decide) ?_
  refine lv_iconst (v := nI 4) hx hb d_Met_init_15 (by decide) ?_
  refine nw_mna (ty := .long) (z := (4, .inr (.inl (fun _ => lN 0)))) (N := 61) (K := 4) hx hb hown (hts _ (nw_mc 433 rfl)) (va_Nw_over hKx) (hts _ (nw_mc 225 rfl)) hK 0 1 rfl rfl rfl hP hD hS hA (by decide) (by decide) (by decide) (by decide) (by decide) rfl rfl (Nat.le_of_ble_eq_true rfl) (Nat.le_of_ble_eq_true rfl) (fun _ => rfl) d_Met_init_16 (fun q1 r0 H hP hD hS => ?_)
  replace hP : va_P (dC, dI) nw_cls ([(h, .inr (2, [.ref q0, .null, .int (nI 0)])), (q0, nw_al cJ 127 (fun _ => 0)), (q1, nw_ar cG 61 (fun k => some (r0 k)))] ++ (nw_rl 61 cJ 4 r0 (fun _ _ => 0) ++ [])) H := hP
  replace hD : va_D A ([(h, .inr (2, [.ref q0, .null, .int (nI 0)])), (q0, nw_al cJ 127 (fun _ => 0)), (q1, nw_ar cG 61 (fun k => some (r0 k)))] ++ (nw_rl 61 cJ 4 r0 (fun _ _ => 0) ++ [])) := hD
  refine va_putF (D := (dC, dI)) (ci := 2) (v := .ref q1) (ty := (.array (.array .long))) (C := R_Met) (T := F_Met) (N := 3) hx hb hts hin_Met t_Met t_Met_ok n_Met hown hK hP hD hS 0 rfl rfl 1 (by decide) (hts _ (nw_mc 227 rfl)) (fun _ h9 => h9) rfl hin rfl (by decide +kernel) rfl rfl (Nat.le_of_ble_eq_true rfl) d_Met_init_20 (fun H locs hP hD hS => ?_)
  replace hP : va_P (dC, dI) nw_cls ([(h, .inr (2, [.ref q0, .ref q1, .int (nI 0)])), (q0, nw_al cJ 127 (fun _ => 0)), (q1, nw_ar cG 61 (fun k => some (r0 k)))] ++ (nw_rl 61 cJ 4 r0 (fun _ _ => 0) ++ [])) H := hP
  replace hD : va_D A ([(h, .inr (2, [.ref q0, .ref q1, .int (nI 0)])), (q0, nw_al cJ 127 (fun _ => 0)), (q1, nw_ar cG 61 (fun k => some (r0 k)))] ++ (nw_rl 61 cJ 4 r0 (fun _ _ => 0) ++ [])) := hD
  refine lv_aload_n hx hb d_Met_init_23 rfl (lv_at hl 0 rfl) ?_
  refine lv_iconst (v := nI 0) hx hb d_Met_init_24 (by decide) ?_
  refine va_put (D := (dC, dI)) (ci := 2) (v := .int (nI 0)) (ty := .int) (C := R_Met) (T := F_Met) (N := 3) hx hb hts hin_Met t_Met t_Met_ok n_Met hown hK hP hD hS 0 rfl rfl 2 (by decide) (hts _ (nw_mc 228 rfl)) (fun _ h9 => h9) rfl (by decide +kernel) rfl rfl (Nat.le_of_ble_eq_true rfl) d_Met_init_25 (fun H locs hP hD hS => ?_)
  replace hP : va_P (dC, dI) nw_cls ([(h, .inr (2, [.ref q0, .ref q1, .int (nI 0)])), (q0, nw_al cJ 127 (fun _ => 0)), (q1, nw_ar cG 61 (fun k => some (r0 k)))] ++ (nw_rl 61 cJ 4 r0 (fun _ _ => 0) ++ [])) H := hP
  replace hD : va_D A ([(h, .inr (2, [.ref q0, .ref q1, .int (nI 0)])), (q0, nw_al cJ 127 (fun _ => 0)), (q1, nw_ar cG 61 (fun k => some (r0 k)))] ++ (nw_rl 61 cJ 4 r0 (fun _ _ => 0) ++ [])) := hD
  refine lv_iconst (v := nI 0) hx hb d_Met_init_28 (by decide) ?_
  refine lv_istore_n hx hb d_Met_init_29 rfl hl (by decide) rfl (fun ls hl => ?_)
  replace hl : lv_has ls 2 [(1, .int (nI 0)), (0, .ref h)] := hl
  refine W.widen (k := 63) (n := 432) (by decide) (by decide) ?_
  have hP := nw_up0 (k := 0) hP
  have hD := nw_up0D (k := 0) hD
  replace hP : va_P (dC, dI) nw_cls ([(h, .inr (2, [.ref q0, .ref q1, .int (nI 0)])), (q0, nw_al cJ 127 (fun _ => 0)), (q1, nw_ar cG 61 (fun k => some (r0 k)))] ++ (nw_rl 61 cJ 4 r0 (va_up (fun _ _ => 0) 0 (fun _ => 0)) ++ [])) H := hP
  replace hD : va_D A ([(h, .inr (2, [.ref q0, .ref q1, .int (nI 0)])), (q0, nw_al cJ 127 (fun _ => 0)), (q1, nw_ar cG 61 (fun k => some (r0 k)))] ++ (nw_rl 61 cJ 4 r0 (va_up (fun _ _ => 0) 0 (fun _ => 0)) ++ [])) := hD
  refine nw_loopW (σ := Nat × (Nat → Nat)) (fun x => match x with | (d, g) => d ≤ 4 ∧ ∀ j, j < d → g j = 2 ^ (j + 1) - 1) (fun x => match x with | (d, g) => [(1, .int (nI d)), (0, .ref h)]) (fun x => match x with | (d, g) => ([(h, .inr (2, [.ref q0, .ref q1, .int (nI 0)])), (q0, nw_al cJ 127 (fun _ => 0)), (q1, nw_ar cG 61 (fun k => some (r0 k)))] ++ (nw_rl 61 cJ 4 r0 (va_up (fun _ _ => 0) 0 g) ++ []))) (fun x => match x with | (d, g) => 4 - d) (fun x hI ih ls H locs hl hP hD hS => ?_) (0, fun _ => 0) (⟨Nat.zero_le _, fun j hj => absurd hj (Nat.not_lt_zero j)⟩) hl hP hD hS
  obtain ⟨d, g⟩ := x
  replace hI : d ≤ 4 ∧ ∀ j, j < d → g j = 2 ^ (j + 1) - 1 := hI
  replace hl : lv_has ls 2 [(1, .int (nI d)), (0, .ref h)] := hl
  replace hP : va_P (dC, dI) nw_cls ([(h, .inr (2, [.ref q0, .ref q1, .int (nI 0)])), (q0, nw_al cJ 127 (fun _ => 0)), (q1, nw_ar cG 61 (fun k => some (r0 k)))] ++ (nw_rl 61 cJ 4 r0 (va_up (fun _ _ => 0) 0 g) ++ [])) H := hP
  replace hD : va_D A ([(h, .inr (2, [.ref q0, .ref q1, .int (nI 0)])), (q0, nw_al cJ 127 (fun _ => 0)), (q1, nw_ar cG 61 (fun k => some (r0 k)))] ++ (nw_rl 61 cJ 4 r0 (va_up (fun _ _ => 0) 0 g) ++ [])) := hD
  obtain ⟨hd, hg⟩ := hI
  refine lv_iload_n hx hb d_Met_init_30 rfl (lv_at hl 0 rfl) ?_
  refine lv_iconst (v := nI 3) hx hb d_Met_init_31 (by decide) ?_
  refine lv_icmp_gt hx hb d_Met_init_32 (tgt := 55) (by decide) (fun g1 => ?_) (fun g1 => ?_)
  · rw [nI_ltI (by omega) (by omega)] at g1
    exact W.vret hx hb hr (fun t ht hW => ⟨⟨(q0, q1, r0, va_up (fun _ _ => 0) 0 g), rfl, fun d hd => by
      show va_up (fun _ _ => 0) 0 g 0 d = _
      rw [va_up_self]; exact hg d (by omega), by rw [ht]; exact hP, hD⟩, hS.F ht⟩) hS.2.2 d_Met_init_55
  · rw [nI_ltI (by omega) (by omega)] at g1
    refine lv_aload_n hx hb d_Met_init_35 rfl (lv_at hl 1 rfl) ?_
    refine va_get (D := (dC, dI)) (ci := 2) (v := .ref q1) (C := R_Met) (T := F_Met) (N := 3) hx hb hts hin_Met hown hK hP 0 rfl rfl 1 (by decide) (hts _ (nw_mc 227 rfl)) (fun _ h9 => h9) rfl d_Met_init_36 ?_
    refine lv_iconst (v := nI 0) hx hb d_Met_init_39 (by decide) ?_
    refine nw_aald hx hb hK hP 2 0 rfl rfl (k := 0) (by omega) (by decide) rfl d_Met_init_40 ?_
    refine lv_iload_n hx hb d_Met_init_41 rfl (lv_at hl 0 rfl) ?_
    refine lv_iload_n hx hb d_Met_init_42 rfl (lv_at hl 0 rfl) ?_
    refine lv_iconst (v := nI 1) hx hb d_Met_init_43 (by decide) ?_
    refine lv_iadd hx hb d_Met_init_44 ?_
    refine nw_ti (nI_add d 1) ?_
    refine vp_callSl (va_Run.run (va_runS (As := [.int (nI (d + 1))]) (rest := [.int (nI d), .ref (r0 0)]) ⟨hx, hb, hml, hown, hts⟩ (c_Met_low l dC dI (d + 1) (by omega)) (cwS 1 hts (nw_GS (nw_m 229 rfl) (nw_m 230 rfl) (nw_m 30 rfl) (nw_m 231 rfl)) rfl rfl rfl (by decide +kernel) ⟨Nat.le_of_ble_eq_true rfl, Nat.le_of_ble_eq_true rfl⟩) (nw_preS hK hP [] [] rfl rfl) rfl rfl hl.1 rfl (lv_room (Nat.le_of_ble_eq_true rfl)) d_Met_init_45 ⟨Nat.le_of_ble_eq_true rfl, Nat.le_of_ble_eq_true rfl⟩)) (fun r her => ?_)
    subst her
    refine nw_rlst hx hb hK (k := 0) (d := d) (v := (2 ^ (d + 1) - 1)) hP hD hS 1 rfl (by omega) (by omega) (by decide) d_Met_init_48 (fun H locs hP hD hS => ?_)
    replace hP : va_P (dC, dI) nw_cls ([(h, .inr (2, [.ref q0, .ref q1, .int (nI 0)])), (q0, nw_al cJ 127 (fun _ => 0)), (q1, nw_ar cG 61 (fun k => some (r0 k)))] ++ (nw_rl 61 cJ 4 r0 (va_up (va_up (fun _ _ => 0) 0 g) 0 (va_up ((va_up (fun _ _ => 0) 0 g) 0) d (2 ^ (d + 1) - 1))) ++ [])) H := hP
    replace hD : va_D A ([(h, .inr (2, [.ref q0, .ref q1, .int (nI 0)])), (q0, nw_al cJ 127 (fun _ => 0)), (q1, nw_ar cG 61 (fun k => some (r0 k)))] ++ (nw_rl 61 cJ 4 r0 (va_up (va_up (fun _ _ => 0) 0 g) 0 (va_up ((va_up (fun _ _ => 0) 0 g) 0) d (2 ^ (d + 1) - 1))) ++ [])) := hD
    rw [nw_up2] at hP hD
    replace hP : va_P (dC, dI) nw_cls ([(h, .inr (2, [.ref q0, .ref q1, .int (nI 0)])), (q0, nw_al cJ 127 (fun _ => 0)), (q1, nw_ar cG 61 (fun k => some (r0 k)))] ++ (nw_rl 61 cJ 4 r0 (va_up (fun _ _ => 0) 0 (va_up g d (2 ^ (d + 1) - 1))) ++ [])) H := hP
    replace hD : va_D A ([(h, .inr (2, [.ref q0, .ref q1, .int (nI 0)])), (q0, nw_al cJ 127 (fun _ => 0)), (q1, nw_ar cG 61 (fun k => some (r0 k)))] ++ (nw_rl 61 cJ 4 r0 (va_up (fun _ _ => 0) 0 (va_up g d (2 ^ (d + 1) - 1))) ++ [])) := hD
    refine lv_iinc (v := nI (d + 1)) hx hb d_Met_init_49 hl (k := 0) rfl (nI_add d 1) (by decide) rfl (fun ls hl => ?_)
    have hl : lv_has ls 2 [(1, .int (nI (d + 1))), (0, .ref h)] := hl
    refine lv_goto hx hb d_Met_init_52 (tgt := 30) (by decide) ?_
    exact ih (d + 1, va_up g d (2 ^ (d + 1) - 1)) (⟨by omega, fun j hj => by
      by_cases e : j = d
      · rw [e, va_up_self]
      · rw [va_up_ne _ _ e]; exact hg j (by omega)⟩) (show 4 - (d + 1) < 4 - d by omega) _ _ _ hl hP hD hS
