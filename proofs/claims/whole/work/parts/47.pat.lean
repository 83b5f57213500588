set_option maxHeartbeats 4000000 in
set_option maxRecDepth 100000 in
theorem c_Pat_over (l : Launch) (dC : Nat → ClassId) (dI : Nat → Nat → Nat) (h a AR AO L : Nat) (r0 : Nat) (hAR : AR < 2 ^ 61) (hr0 : r0 < 2 ^ 61) : Met l y_Pat_overAnyRow w_Pat_overAnyRow ({ frames := 0, cells := 0, slots := 0, locals := 0 }) (nw_Pr [.ref h, .long (lN r0)] (dC, dI) nw_cls [] [(h, .inr (4, [.ref a, .long (lN AR), .long (lN AO), .int (nI L)]))]) (vp_Sl (fun r => r = lN (nw_ov AR r0))) 0 0 (fun _ => False) := by
  refine Met.ofW (cc := b_Pat_overAnyRow) (maxL := 3) (ret := (some .long)) (by decide) rfl ?_
  intro p e s m args below meth cd s₁ B hml hv0
  obtain ⟨rfl, hP, hK⟩ := hv0
  have hx := B.exec
  have hb := B.bytes
  have hr := B.returns
  have hts := atoms_spec (ws := w_Pat_overAnyRow) B.pre
  have hown : s.vm.findClass R_Pat = some m.cls := findClass_of_methodNamed B.named
  have hlocks := B.notSynchronized
  have hl := lv_entry ([.ref h, .long (lN r0)]) (n := 3) (Nat.le_of_ble_eq_true rfl)
  rw [lg_entry_eq]
  generalize (lg_sl ([.ref h, .long (lN r0)]) ++ List.replicate (3 - (lg_sl ([.ref h, .long (lN r0)])).length) Slot.unset).toArray = ls at hl ⊢
  have hl : lv_has ls 3 [(0, .ref h), (1, .long (lN r0))] := hl
  refine lv_lload_n hx hb d_Pat_overAnyRow_0 rfl (lv_at hl 1 rfl) ?_
  refine lv_lload_n hx hb d_Pat_overAnyRow_1 rfl (lv_at hl 1 rfl) ?_
  refine lv_aload_n hx hb d_Pat_overAnyRow_2 rfl (lv_at hl 0 rfl) ?_
  refine va_get (D := (dC, dI)) (ci := 4) (v := .long (lN AR)) (C := R_Pat) (T := F_Pat) (N := 4) hx hb hts hin_Pat hown hK hP 0 rfl rfl 1 (by decide) (hts _ (nw_mc 277 rfl)) (fun _ h9 => h9) rfl d_Pat_overAnyRow_3 ?_
  refine lv_land hx hb d_Pat_overAnyRow_6 ?_
  refine lv_iconst (v := nI 1) hx hb d_Pat_overAnyRow_7 (by decide) ?_
  refine lv_lshl (v := (lN r0 &&& lN AR) <<< ((nI 1).toInt64 &&& 63)) hx hb d_Pat_overAnyRow_8 (rfl) ?_
  refine lv_lor hx hb d_Pat_overAnyRow_9 ?_
  refine nw_tl (y := lN (nw_ov AR r0)) (nw_ovL hAR hr0) ?_
  exact W.lret (v := lN (nw_ov AR r0)) hx hb hr (fun t ht hW => ⟨_, rfl, rfl, ht⟩) (fun q hq => by cases hq) d_Pat_overAnyRow_10

set_option maxHeartbeats 4000000 in
set_option maxRecDepth 100000 in
theorem c_Pat_part_star (l : Launch) (dC : Nat → ClassId) (dI : Nat → Nat → Nat) (sz : Nat) (cJ : ClassId) (h a AR AO L : Nat) (P : Nat → Nat) (ch : Nat) (hL : L < 60) (hAR : AR < 2 ^ 61) (hO : AO < 2 ^ 61) (hch : ch = 42) : Met l y_Pat_readPart w_Pat_readPart ({ frames := 0, cells := 0, slots := 0, locals := 0 }) (nw_Pw [.ref h, .int (nI ch)] (dC, dI) nw_cls [(cJ, .long)] [(h, .inr (4, [.ref a, .long (lN AR), .long (lN AO), .int (nI L)])), (a, nw_al cJ 127 P)] sz) (va_Qv (fun _ : Unit => True) (nw_B (dC, dI) nw_cls (va_A [(h, .inr (4, [.ref a, .long (lN AR), .long (lN AO), .int (nI L)])), (a, nw_al cJ 127 P)] sz) (fun _ : Unit => [(h, .inr (4, [.ref a, .long (lN (AR ||| 2 ^ L)), .long (lN AO), .int (nI (L + 1))])), (a, nw_al cJ 127 P)])) (va_A [(h, .inr (4, [.ref a, .long (lN AR), .long (lN AO), .int (nI L)])), (a, nw_al cJ 127 P)] sz)) 0 0 (va_A [(h, .inr (4, [.ref a, .long (lN AR), .long (lN AO), .int (nI L)])), (a, nw_al cJ 127 P)] sz) := by
  refine Met.ofW (cc := b_Pat_readPart) (maxL := 4) (ret := none) (by decide) rfl ?_
  intro p e s m args below meth cd s₁ B hml hv0
  obtain ⟨rfl, hsz, hP, hK, hD0⟩ := hv0
  have hx := B.exec
  have hb := B.bytes
  have hr := B.returns
  have hts := atoms_spec (ws := w_Pat_readPart) B.pre
  have hown : s.vm.findClass R_Pat = some m.cls := findClass_of_methodNamed B.named
  have hlocks := B.notSynchronized
  subst hsz
  have hD := hD0.self (sz := s.heap.size)
  generalize hAe : va_A [(h, .inr (4, [.ref a, .long (lN AR), .long (lN AO), .int (nI L)])), (a, nw_al cJ 127 P)] s.heap.size = A at hD ⊢
  have hA : ∀ q : Nat, s.heap.size ≤ q → A q := fun q h => by rw [← hAe]; exact Or.inr h
  have hS : va_S A s.heap s.heap [] := va_S.rf
  have hl := lv_entry ([.ref h, .int (nI ch)]) (n := 4) (Nat.le_of_ble_eq_true rfl)
  rw [lg_entry_eq]
  generalize (lg_sl ([.ref h, .int (nI ch)]) ++ List.replicate (4 - (lg_sl ([.ref h, .int (nI ch)])).length) Slot.unset).toArray = ls at hl ⊢
  have hl : lv_has ls 4 [(0, .ref h), (1, .int (nI ch))] := hl
  refine lv_lconst (v := lN 1) hx hb d_Pat_readPart_0 (by decide) ?_
  refine lv_aload_n hx hb d_Pat_readPart_1 rfl (lv_at hl 0 rfl) ?_
  refine va_get (D := (dC, dI)) (ci := 4) (v := .int (nI L)) (C := R_Pat) (T := F_Pat) (N := 4) hx hb hts hin_Pat hown hK hP 0 rfl rfl 3 (by decide) (hts _ (nw_mc 279 rfl)) (fun _ h9 => h9) rfl d_Pat_readPart_2 ?_
  refine lv_lshl (v := lN (2 ^ L)) hx hb d_Pat_readPart_5 (nw_sh1 (by omega)) ?_
  refine lv_lstore_n hx hb d_Pat_readPart_6 rfl hl (by decide) rfl (fun ls hl => ?_)
  replace hl : lv_has ls 4 [(2, .long (lN (2 ^ L))), (0, .ref h), (1, .int (nI ch))] := hl
  refine lv_iload_n hx hb d_Pat_readPart_7 rfl (lv_at hl 2 rfl) ?_
  refine lv_bipush (v := nI 42) hx hb d_Pat_readPart_8 (by decide) ?_
  refine lv_icmp_ne hx hb d_Pat_readPart_10 (tgt := 26) (by decide) (fun q1 => ?_) (fun q1 => ?_)
  · rw [nI_eq (by omega) (by omega)] at q1
    omega
  · rw [nI_eq (by omega) (by omega)] at q1
    refine lv_aload_n hx hb d_Pat_readPart_13 rfl (lv_at hl 1 rfl) ?_
    refine lv_dup hx hb d_Pat_readPart_14 rfl ?_
    refine va_get (D := (dC, dI)) (ci := 4) (v := .long (lN AR)) (C := R_Pat) (T := F_Pat) (N := 4) hx hb hts hin_Pat hown hK hP 0 rfl rfl 1 (by decide) (hts _ (nw_mc 277 rfl)) (fun _ h9 => h9) rfl d_Pat_readPart_15 ?_
    refine lv_lload_n hx hb d_Pat_readPart_18 rfl (lv_at hl 0 rfl) ?_
    refine lv_lor hx hb d_Pat_readPart_19 ?_
    refine nw_tl (y := lN (AR ||| 2 ^ L)) (nw_orL hAR (by omega)) ?_
    refine va_put (D := (dC, dI)) (ci := 4) (v := .long (lN (AR ||| 2 ^ L))) (ty := .long) (C := R_Pat) (T := F_Pat) (N := 4) hx hb hts hin_Pat t_Pat t_Pat_ok n_Pat hown hK hP hD hS 0 rfl rfl 1 (by decide) (hts _ (nw_mc 277 rfl)) (fun _ h9 => h9) rfl (by decide +kernel) rfl rfl (Nat.le_of_ble_eq_true rfl) d_Pat_readPart_20 (fun H locs hP hD hS => ?_)
    replace hP : va_P (dC, dI) nw_cls [(h, .inr (4, [.ref a, .long (lN (AR ||| 2 ^ L)), .long (lN AO), .int (nI L)])), (a, nw_al cJ 127 P)] H := hP
    replace hD : va_D A [(h, .inr (4, [.ref a, .long (lN (AR ||| 2 ^ L)), .long (lN AO), .int (nI L)])), (a, nw_al cJ 127 P)] := hD
    refine lv_goto hx hb d_Pat_readPart_23 (tgt := 55) (by decide) ?_
    refine lv_aload_n hx hb d_Pat_readPart_55 rfl (lv_at hl 1 rfl) ?_
    refine lv_dup hx hb d_Pat_readPart_56 rfl ?_
    refine va_get (D := (dC, dI)) (ci := 4) (v := .int (nI L)) (C := R_Pat) (T := F_Pat) (N := 4) hx hb hts hin_Pat hown hK hP 0 rfl rfl 3 (by decide) (hts _ (nw_mc 279 rfl)) (fun _ h9 => h9) rfl d_Pat_readPart_57 ?_
    refine lv_iconst (v := nI 1) hx hb d_Pat_readPart_60 (by decide) ?_
    refine lv_iadd hx hb d_Pat_readPart_61 ?_
    refine nw_ti (nI_add L 1) ?_
    refine va_put (D := (dC, dI)) (ci := 4) (v := .int (nI (L + 1))) (ty := .int) (C := R_Pat) (T := F_Pat) (N := 4) hx hb hts hin_Pat t_Pat t_Pat_ok n_Pat hown hK hP hD hS 0 rfl rfl 3 (by decide) (hts _ (nw_mc 279 rfl)) (fun _ h9 => h9) rfl (by decide +kernel) rfl rfl (Nat.le_of_ble_eq_true rfl) d_Pat_readPart_62 (fun H locs hP hD hS => ?_)
    replace hP : va_P (dC, dI) nw_cls [(h, .inr (4, [.ref a, .long (lN (AR ||| 2 ^ L)), .long (lN AO), .int (nI (L + 1))])), (a, nw_al cJ 127 P)] H := hP
    replace hD : va_D A [(h, .inr (4, [.ref a, .long (lN (AR ||| 2 ^ L)), .long (lN AO), .int (nI (L + 1))])), (a, nw_al cJ 127 P)] := hD
    exact W.vret hx hb hr (fun t ht hW => ⟨⟨(), rfl, trivial, by rw [ht]; exact hP, hD⟩, hS.F ht⟩) hS.2.2 d_Pat_readPart_65

set_option maxHeartbeats 4000000 in
set_option maxRecDepth 100000 in
theorem c_Pat_part_one (l : Launch) (dC : Nat → ClassId) (dI : Nat → Nat → Nat) (sz : Nat) (cJ : ClassId) (h a AR AO L : Nat) (P : Nat → Nat) (ch : Nat) (hL : L < 60) (hAR : AR < 2 ^ 61) (hO : AO < 2 ^ 61) (hch : ch = 63) : Met l y_Pat_readPart w_Pat_readPart ({ frames := 0, cells := 0, slots := 0, locals := 0 }) (nw_Pw [.ref h, .int (nI ch)] (dC, dI) nw_cls [(cJ, .long)] [(h, .inr (4, [.ref a, .long (lN AR), .long (lN AO), .int (nI L)])), (a, nw_al cJ 127 P)] sz) (va_Qv (fun _ : Unit => True) (nw_B (dC, dI) nw_cls (va_A [(h, .inr (4, [.ref a, .long (lN AR), .long (lN AO), .int (nI L)])), (a, nw_al cJ 127 P)] sz) (fun _ : Unit => [(h, .inr (4, [.ref a, .long (lN AR), .long (lN (AO ||| 2 ^ L)), .int (nI (L + 1))])), (a, nw_al cJ 127 P)])) (va_A [(h, .inr (4, [.ref a, .long (lN AR), .long (lN AO), .int (nI L)])), (a, nw_al cJ 127 P)] sz)) 0 0 (va_A [(h, .inr (4, [.ref a, .long (lN AR), .long (lN AO), .int (nI L)])), (a, nw_al cJ 127 P)] sz) := by
  refine Met.ofW (cc := b_Pat_readPart) (maxL := 4) (ret := none) (by decide) rfl ?_
  intro p e s m args below meth cd s₁ B hml hv0
  obtain ⟨rfl, hsz, hP, hK, hD0⟩ := hv0
  have hx := B.exec
  have hb := B.bytes
  have hr := B.returns
  have hts := atoms_spec (ws := w_Pat_readPart) B.pre
  have hown : s.vm.findClass R_Pat = some m.cls := findClass_of_methodNamed B.named
  have hlocks := B.notSynchronized
  subst hsz
  have hD := hD0.self (sz := s.heap.size)
  generalize hAe : va_A [(h, .inr (4, [.ref a, .long (lN AR), .long (lN AO), .int (nI L)])), (a, nw_al cJ 127 P)] s.heap.size = A at hD ⊢
  have hA : ∀ q : Nat, s.heap.size ≤ q → A q := fun q h => by rw [← hAe]; exact Or.inr h
  have hS : va_S A s.heap s.heap [] := va_S.rf
  have hl := lv_entry ([.ref h, .int (nI ch)]) (n := 4) (Nat.le_of_ble_eq_true rfl)
  rw [lg_entry_eq]
  generalize (lg_sl ([.ref h, .int (nI ch)]) ++ List.replicate (4 - (lg_sl ([.ref h, .int (nI ch)])).length) Slot.unset).toArray = ls at hl ⊢
  have hl : lv_has ls 4 [(0, .ref h), (1, .int (nI ch))] := hl
  refine lv_lconst (v := lN 1) hx hb d_Pat_readPart_0 (by decide) ?_
  refine lv_aload_n hx hb d_Pat_readPart_1 rfl (lv_at hl 0 rfl) ?_
  refine va_get (D := (dC, dI)) (ci := 4) (v := .int (nI L)) (C := R_Pat) (T := F_Pat) (N := 4) hx hb hts hin_Pat hown hK hP 0 rfl rfl 3 (by decide) (hts _ (nw_mc 279 rfl)) (fun _ h9 => h9) rfl d_Pat_readPart_2 ?_
  refine lv_lshl (v := lN (2 ^ L)) hx hb d_Pat_readPart_5 (nw_sh1 (by omega)) ?_
  refine lv_lstore_n hx hb d_Pat_readPart_6 rfl hl (by decide) rfl (fun ls hl => ?_)
  replace hl : lv_has ls 4 [(2, .long (lN (2 ^ L))), (0, .ref h), (1, .int (nI ch))] := hl
  refine lv_iload_n hx hb d_Pat_readPart_7 rfl (lv_at hl 2 rfl) ?_
  refine lv_bipush (v := nI 42) hx hb d_Pat_readPart_8 (by decide) ?_
  refine lv_icmp_ne hx hb d_Pat_readPart_10 (tgt := 26) (by decide) (fun q1 => ?_) (fun q1 => ?_)
  · rw [nI_eq (by omega) (by omega)] at q1
    refine lv_iload_n hx hb d_Pat_readPart_26 rfl (lv_at hl 2 rfl) ?_
    refine lv_bipush (v := nI 63) hx hb d_Pat_readPart_27 (by decide) ?_
    refine lv_icmp_ne hx hb d_Pat_readPart_29 (tgt := 45) (by decide) (fun q2 => ?_) (fun q2 => ?_)
    · rw [nI_eq (by omega) (by omega)] at q2
      omega
    · rw [nI_eq (by omega) (by omega)] at q2
      refine lv_aload_n hx hb d_Pat_readPart_32 rfl (lv_at hl 1 rfl) ?_
      refine lv_dup hx hb d_Pat_readPart_33 rfl ?_
      refine va_get (D := (dC, dI)) (ci := 4) (v := .long (lN AO)) (C := R_Pat) (T := F_Pat) (N := 4) hx hb hts hin_Pat hown hK hP 0 rfl rfl 2 (by decide) (hts _ (nw_mc 278 rfl)) (fun _ h9 => h9) rfl d_Pat_readPart_34 ?_
      refine lv_lload_n hx hb d_Pat_readPart_37 rfl (lv_at hl 0 rfl) ?_
      refine lv_lor hx hb d_Pat_readPart_38 ?_
      refine nw_tl (y := lN (AO ||| 2 ^ L)) (nw_orL hO (by omega)) ?_
      refine va_put (D := (dC, dI)) (ci := 4) (v := .long (lN (AO ||| 2 ^ L))) (ty := .long) (C := R_Pat) (T := F_Pat) (N := 4) hx hb hts hin_Pat t_Pat t_Pat_ok n_Pat hown hK hP hD hS 0 rfl rfl 2 (by decide) (hts _ (nw_mc 278 rfl)) (fun _ h9 => h9) rfl (by decide +kernel) rfl rfl (Nat.le_of_ble_eq_true rfl) d_Pat_readPart_39 (fun H locs hP hD hS => ?_)
      replace hP : va_P (dC, dI) nw_cls [(h, .inr (4, [.ref a, .long (lN AR), .long (lN (AO ||| 2 ^ L)), .int (nI L)])), (a, nw_al cJ 127 P)] H := hP
      replace hD : va_D A [(h, .inr (4, [.ref a, .long (lN AR), .long (lN (AO ||| 2 ^ L)), .int (nI L)])), (a, nw_al cJ 127 P)] := hD
      refine lv_goto hx hb d_Pat_readPart_42 (tgt := 55) (by decide) ?_
      refine lv_aload_n hx hb d_Pat_readPart_55 rfl (lv_at hl 1 rfl) ?_
      refine lv_dup hx hb d_Pat_readPart_56 rfl ?_
      refine va_get (D := (dC, dI)) (ci := 4) (v := .int (nI L)) (C := R_Pat) (T := F_Pat) (N := 4) hx hb hts hin_Pat hown hK hP 0 rfl rfl 3 (by decide) (hts _ (nw_mc 279 rfl)) (fun _ h9 => h9) rfl d_Pat_readPart_57 ?_
      refine lv_iconst (v := nI 1) hx hb d_Pat_readPart_60 (by decide) ?_
      refine lv_iadd hx hb d_Pat_readPart_61 ?_
      refine nw_ti (nI_add L 1) ?_
      refine va_put (D := (dC, dI)) (ci := 4) (v := .int (nI (L + 1))) (ty := .int) (C := R_Pat) (T := F_Pat) (N := 4) hx hb hts hin_Pat t_Pat t_Pat_ok n_Pat hown hK hP hD hS 0 rfl rfl 3 (by decide) (hts _ (nw_mc 279 rfl)) (fun _ h9 => h9) rfl (by decide +kernel) rfl rfl (Nat.le_of_ble_eq_true rfl) d_Pat_readPart_62 (fun H locs hP hD hS => ?_)
      replace hP : va_P (dC, dI) nw_cls [(h, .inr (4, [.ref a, .long (lN AR), .long (lN (AO ||| 2 ^ L)), .int (nI (L + 1))])), (a, nw_al cJ 127 P)] H := hP
      replace hD : va_D A [(h, .inr (4, [.ref a, .long (lN AR), .long (lN (AO ||| 2 ^ L)), .int (nI (L + 1))])), (a, nw_al cJ 127 P)] := hD
      exact W.vret hx hb hr (fun t ht hW => ⟨⟨(), rfl, trivial, by rw [ht]; exact hP, hD⟩, hS.F ht⟩) hS.2.2 d_Pat_readPart_65
  · rw [nI_eq (by omega) (by omega)] at q1
    omega

set_option maxHeartbeats 4000000 in
set_option maxRecDepth 100000 in
theorem c_Pat_part_chr (l : Launch) (dC : Nat → ClassId) (dI : Nat → Nat → Nat) (sz : Nat) (cJ : ClassId) (h a AR AO L : Nat) (P : Nat → Nat) (ch : Nat) (hL : L < 60) (hAR : AR < 2 ^ 61) (hO : AO < 2 ^ 61) (hc1 : ¬ ch = 42) (hc2 : ¬ ch = 63) (hc3 : ch < 127) (hP0 : ∀ x, x < 127 → P x < 2 ^ 61) : Met l y_Pat_readPart w_Pat_readPart ({ frames := 0, cells := 0, slots := 0, locals := 0 }) (nw_Pw [.ref h, .int (nI ch)] (dC, dI) nw_cls [(cJ, .long)] [(h, .inr (4, [.ref a, .long (lN AR), .long (lN AO), .int (nI L)])), (a, nw_al cJ 127 P)] sz) (va_Qv (fun _ : Unit => True) (nw_B (dC, dI) nw_cls (va_A [(h, .inr (4, [.ref a, .long (lN AR), .long (lN AO), .int (nI L)])), (a, nw_al cJ 127 P)] sz) (fun _ : Unit => [(h, .inr (4, [.ref a, .long (lN AR), .long (lN AO), .int (nI (L + 1))])), (a, nw_al cJ 127 (va_up P ch (P ch ||| 2 ^ L)))])) (va_A [(h, .inr (4, [.ref a, .long (lN AR), .long (lN AO), .int (nI L)])), (a, nw_al cJ 127 P)] sz)) 0 0 (va_A [(h, .inr (4, [.ref a, .long (lN AR), .long (lN AO), .int (nI L)])), (a, nw_al cJ 127 P)] sz) := by
  refine Met.ofW (cc := b_Pat_readPart) (maxL := 4) (ret := none) (by decide) rfl ?_
  intro p e s m args below meth cd s₁ B hml hv0
  obtain ⟨rfl, hsz, hP, hK, hD0⟩ := hv0
  have hx := B.exec
  have hb := B.bytes
  have hr := B.returns
  have hts := atoms_spec (ws := w_Pat_readPart) B.pre
  have hown : s.vm.findClass R_Pat = some m.cls := findClass_of_methodNamed B.named
  have hlocks := B.notSynchronized
  subst hsz
  have hD := hD0.self (sz := s.heap.size)
  generalize hAe : va_A [(h, .inr (4, [.ref a, .long (lN AR), .long (lN AO), .int (nI L)])), (a, nw_al cJ 127 P)] s.heap.size = A at hD ⊢
  have hA : ∀ q : Nat, s.heap.size ≤ q → A q := fun q h => by rw [← hAe]; exact Or.inr h
  have hS : va_S A s.heap s.heap [] := va_S.rf
  have hl := lv_entry ([.ref h, .int (nI ch)]) (n := 4) (Nat.le_of_ble_eq_true rfl)
  rw [lg_entry_eq]
  generalize (lg_sl ([.ref h, .int (nI ch)]) ++ List.replicate (4 - (lg_sl ([.ref h, .int (nI ch)])).length) Slot.unset).toArray = ls at hl ⊢
  have hl : lv_has ls 4 [(0, .ref h), (1, .int (nI ch))] := hl
  refine lv_lconst (v := lN 1) hx hb d_Pat_readPart_0 (by decide) ?_
  refine lv_aload_n hx hb d_Pat_readPart_1 rfl (lv_at hl 0 rfl) ?_
  refine va_get (D := (dC, dI)) (ci := 4) (v := .int (nI L)) (C := R_Pat) (T := F_Pat) (N := 4) hx hb hts hin_Pat hown hK hP 0 rfl rfl 3 (by decide) (hts _ (nw_mc 279 rfl)) (fun _ h9 => h9) rfl d_Pat_readPart_2 ?_
  refine lv_lshl (v := lN (2 ^ L)) hx hb d_Pat_readPart_5 (nw_sh1 (by omega)) ?_
  refine lv_lstore_n hx hb d_Pat_readPart_6 rfl hl (by decide) rfl (fun ls hl => ?_)
  replace hl : lv_has ls 4 [(2, .long (lN (2 ^ L))), (0, .ref h), (1, .int (nI ch))] := hl
  refine lv_iload_n hx hb d_Pat_readPart_7 rfl (lv_at hl 2 rfl) ?_
  refine lv_bipush (v := nI 42) hx hb d_Pat_readPart_8 (by decide) ?_
  refine lv_icmp_ne hx hb d_Pat_readPart_10 (tgt := 26) (by decide) (fun q1 => ?_) (fun q1 => ?_)
  · rw [nI_eq (by omega) (by omega)] at q1
    refine lv_iload_n hx hb d_Pat_readPart_26 rfl (lv_at hl 2 rfl) ?_
    refine lv_bipush (v := nI 63) hx hb d_Pat_readPart_27 (by decide) ?_
    refine lv_icmp_ne hx hb d_Pat_readPart_29 (tgt := 45) (by decide) (fun q2 => ?_) (fun q2 => ?_)
    · rw [nI_eq (by omega) (by omega)] at q2
      refine lv_aload_n hx hb d_Pat_readPart_45 rfl (lv_at hl 1 rfl) ?_
      refine va_get (D := (dC, dI)) (ci := 4) (v := .ref a) (C := R_Pat) (T := F_Pat) (N := 4) hx hb hts hin_Pat hown hK hP 0 rfl rfl 0 (by decide) (hts _ (nw_mc 276 rfl)) (fun _ h9 => h9) rfl d_Pat_readPart_46 ?_
      refine lv_iload_n hx hb d_Pat_readPart_49 rfl (lv_at hl 2 rfl) ?_
      refine lv_dup2_11 hx hb d_Pat_readPart_50 rfl rfl ?_
      refine nw_lald hx hb hK hP 1 0 rfl rfl (k := ch) (by omega) (by first | decide | omega) d_Pat_readPart_51 ?_
      refine lv_lload_n hx hb d_Pat_readPart_52 rfl (lv_at hl 0 rfl) ?_
      refine lv_lor hx hb d_Pat_readPart_53 ?_
      refine nw_tl (y := lN (P ch ||| 2 ^ L)) (nw_orL (hP0 ch hc3) (by omega)) ?_
      refine nw_last hx hb hK hP hD hS 1 0 rfl rfl (k := ch) (v := (P ch ||| 2 ^ L)) (by omega) (by first | decide | omega) d_Pat_readPart_54 (fun H locs hP hD hS => ?_)
      replace hP : va_P (dC, dI) nw_cls [(h, .inr (4, [.ref a, .long (lN AR), .long (lN AO), .int (nI L)])), (a, nw_al cJ 127 (va_up P ch (P ch ||| 2 ^ L)))] H := hP
      replace hD : va_D A [(h, .inr (4, [.ref a, .long (lN AR), .long (lN AO), .int (nI L)])), (a, nw_al cJ 127 (va_up P ch (P ch ||| 2 ^ L)))] := hD
      refine lv_aload_n hx hb d_Pat_readPart_55 rfl (lv_at hl 1 rfl) ?_
      refine lv_dup hx hb d_Pat_readPart_56 rfl ?_
      refine va_get (D := (dC, dI)) (ci := 4) (v := .int (nI L)) (C := R_Pat) (T := F_Pat) (N := 4) hx hb hts hin_Pat hown hK hP 0 rfl rfl 3 (by decide) (hts _ (nw_mc 279 rfl)) (fun _ h9 => h9) rfl d_Pat_readPart_57 ?_
      refine lv_iconst (v := nI 1) hx hb d_Pat_readPart_60 (by decide) ?_
      refine lv_iadd hx hb d_Pat_readPart_61 ?_
      refine nw_ti (nI_add L 1) ?_
      refine va_put (D := (dC, dI)) (ci := 4) (v := .int (nI (L + 1))) (ty := .int) (C := R_Pat) (T := F_Pat) (N := 4) hx hb hts hin_Pat t_Pat t_Pat_ok n_Pat hown hK hP hD hS 0 rfl rfl 3 (by decide) (hts _ (nw_mc 279 rfl)) (fun _ h9 => h9) rfl (by decide +kernel) rfl rfl (Nat.le_of_ble_eq_true rfl) d_Pat_readPart_62 (fun H locs hP hD hS => ?_)
      replace hP : va_P (dC, dI) nw_cls [(h, .inr (4, [.ref a, .long (lN AR), .long (lN AO), .int (nI (L + 1))])), (a, nw_al cJ 127 (va_up P ch (P ch ||| 2 ^ L)))] H := hP
      replace hD : va_D A [(h, .inr (4, [.ref a, .long (lN AR), .long (lN AO), .int (nI (L + 1))])), (a, nw_al cJ 127 (va_up P ch (P ch ||| 2 ^ L)))] := hD
      exact W.vret hx hb hr (fun t ht hW => ⟨⟨(), rfl, trivial, by rw [ht]; exact hP, hD⟩, hS.F ht⟩) hS.2.2 d_Pat_readPart_65
    · rw [nI_eq (by omega) (by omega)] at q2
      omega
  · rw [nI_eq (by omega) (by omega)] at q1
    omega

set_option maxHeartbeats 4000000 in
set_option maxRecDepth 100000 in
theorem c_Pat_read (l : Launch) (dC : Nat → ClassId) (dI : Nat → Nat → Nat) (sz : Nat) (cB cJ : ClassId) (h a AR AO L : Nat) (P : Nat → Nat) (h2 a2 n2 : Nat) (c2 : Nat → Nat) (hn : n2 ≤ 60) (hc : ∀ j, c2 j < 127) : Met l y_Pat_read w_Pat_read ({ frames := 1, cells := 0, slots := 0, locals := 24 }) (nw_Pw [.ref h, .ref h2] (dC, dI) nw_cls [(cB, .byte), (cJ, .long)] [(h, .inr (4, [.ref a, .long (lN AR), .long (lN AO), .int (nI L)])), (a, nw_al cJ 127 P), (h2, .inr (6, [.ref a2, .int (nI n2)])), (a2, nw_ai cB 60 c2)] sz) (va_Qv (fun u : (Nat → Nat) × Nat × Nat × Nat × (Nat → Nat) => nw_PS u.1 u.2.1 u.2.2.1 u.2.2.2.1 u.2.2.2.2 ∧ ∀ w i, nw_M c2 w i n2 = nw_M u.2.2.2.2 w i u.2.2.2.1) (nw_B (dC, dI) nw_cls (va_A [(h, .inr (4, [.ref a, .long (lN AR), .long (lN AO), .int (nI L)])), (a, nw_al cJ 127 P), (h2, .inr (6, [.ref a2, .int (nI n2)])), (a2, nw_ai cB 60 c2)] sz) (fun u => [(h, .inr (4, [.ref a, .long (lN u.2.1), .long (lN u.2.2.1), .int (nI u.2.2.2.1)])), (a, nw_al cJ 127 u.1), (h2, .inr (6, [.ref a2, .int (nI n2)])), (a2, nw_ai cB 60 c2)])) (va_A [(h, .inr (4, [.ref a, .long (lN AR), .long (lN AO), .int (nI L)])), (a, nw_al cJ 127 P), (h2, .inr (6, [.ref a2, .int (nI n2)])), (a2, nw_ai cB 60 c2)] sz)) 0 0 (va_A [(h, .inr (4, [.ref a, .long (lN AR), .long (lN AO), .int (nI L)])), (a, nw_al cJ 127 P), (h2, .inr (6, [.ref a2, .int (nI n2)])), (a2, nw_ai cB 60 c2)] sz) := by
  refine Met.ofW (cc := b_Pat_read) (maxL := 3) (ret := none) (by decide) rfl ?_
  intro p e s m args below meth cd s₁ B hml hv0
  obtain ⟨rfl, hsz, hP, hK, hD0⟩ := hv0
  have hx := B.exec
  have hb := B.bytes
  have hr := B.returns
  have hts := atoms_spec (ws := w_Pat_read) B.pre
  have hown : s.vm.findClass R_Pat = some m.cls := findClass_of_methodNamed B.named
  have hlocks := B.notSynchronized
  subst hsz
  have hD := hD0.self (sz := s.heap.size)
  generalize hAe : va_A [(h, .inr (4, [.ref a, .long (lN AR), .long (lN AO), .int (nI L)])), (a, nw_al cJ 127 P), (h2, .inr (6, [.ref a2, .int (nI n2)])), (a2, nw_ai cB 60 c2)] s.heap.size = A at hD ⊢
  have hA : ∀ q : Nat, s.heap.size ≤ q → A q := fun q h => by rw [← hAe]; exact Or.inr h
  have hS : va_S A s.heap s.heap [] := va_S.rf
  have hl := lv_entry ([.ref h, .ref h2]) (n := 3) (Nat.le_of_ble_eq_true rfl)
  rw [lg_entry_eq]
  generalize (lg_sl ([.ref h, .ref h2]) ++ List.replicate (3 - (lg_sl ([.ref h, .ref h2])).length) Slot.unset).toArray = ls at hl ⊢
  have hl : lv_has ls 3 [(0, .ref h), (1, .ref h2)] := hl
  refine lv_aload_n hx hb d_Pat_read_0 rfl (lv_at hl 0 rfl) ?_
  refine va_get (D := (dC, dI)) (ci := 4) (v := .ref a) (C := R_Pat) (T := F_Pat) (N := 4) hx hb hts hin_Pat hown hK hP 0 rfl rfl 0 (by decide) (hts _ (nw_mc 276 rfl)) (fun _ h9 => h9) rfl d_Pat_read_1 ?_
  refine lv_lconst (v := lN 0) hx hb d_Pat_read_4 (by decide) ?_
  refine nw_callv (wc := [(a, nw_al cJ 127 P)]) (wr := [(h, .inr (4, [.ref a, .long (lN AR), .long (lN AO), .int (nI L)])), (h2, .inr (6, [.ref a2, .int (nI n2)])), (a2, nw_ai cB 60 c2)]) hP hD hS hA [1] [0, 2, 3] rfl rfl (by decide) (by decide) (va_runS (As := [.ref a, .long (lN 0)]) (rest := []) ⟨hx, hb, hml, hown, hts⟩ (c_Arr_fillJ l dC dI _ cJ a 127 P 0 (by decide)) (va_cwS 2 hts (nw_GT (nw_m 280 rfl) (nw_m 233 rfl) (nw_m 234 rfl) (nw_m 235 rfl)) rfl rfl rfl (by decide +kernel) ⟨Nat.le_of_ble_eq_true rfl, Nat.le_of_ble_eq_true rfl⟩) (nw_prewS hK hP hD [1] [1] (by decide) rfl rfl) rfl rfl hl.1 rfl (lv_room (Nat.le_of_ble_eq_true rfl)) d_Pat_read_5 ⟨Nat.le_of_ble_eq_true rfl, Nat.le_of_ble_eq_true rfl⟩) (fun _ H locs hw hP hD hS => ?_)
  replace hP : va_P (dC, dI) nw_cls [(h, .inr (4, [.ref a, .long (lN AR), .long (lN AO), .int (nI L)])), (h2, .inr (6, [.ref a2, .int (nI n2)])), (a2, nw_ai cB 60 c2), (a, nw_al cJ 127 (nw_fl 127 0 P))] H := hP
  replace hD : va_D A [(h, .inr (4, [.ref a, .long (lN AR), .long (lN AO), .int (nI L)])), (h2, .inr (6, [.ref a2, .int (nI n2)])), (a2, nw_ai cB 60 c2), (a, nw_al cJ 127 (nw_fl 127 0 P))] := hD
  have hP := hP.sub (ws' := [(h, .inr (4, [.ref a, .long (lN AR), .long (lN AO), .int (nI L)])), (a, nw_al cJ 127 (nw_fl 127 0 P)), (h2, .inr (6, [.ref a2, .int (nI n2)])), (a2, nw_ai cB 60 c2)]) [0, 3, 1, 2] rfl
  have hD := hD.sub (ws' := [(h, .inr (4, [.ref a, .long (lN AR), .long (lN AO), .int (nI L)])), (a, nw_al cJ 127 (nw_fl 127 0 P)), (h2, .inr (6, [.ref a2, .int (nI n2)])), (a2, nw_ai cB 60 c2)]) [0, 3, 1, 2] (by decide) rfl
  refine lv_aload_n hx hb d_Pat_read_8 rfl (lv_at hl 0 rfl) ?_
  refine lv_lconst (v := lN 0) hx hb d_Pat_read_9 (by decide) ?_
  refine va_put (D := (dC, dI)) (ci := 4) (v := .long (lN 0)) (ty := .long) (C := R_Pat) (T := F_Pat) (N := 4) hx hb hts hin_Pat t_Pat t_Pat_ok n_Pat hown hK hP hD hS 0 rfl rfl 1 (by decide) (hts _ (nw_mc 277 rfl)) (fun _ h9 => h9) rfl (by decide +kernel) rfl rfl (Nat.le_of_ble_eq_true rfl) d_Pat_read_10 (fun H locs hP hD hS => ?_)
  replace hP : va_P (dC, dI) nw_cls [(h, .inr (4, [.ref a, .long (lN 0), .long (lN AO), .int (nI L)])), (a, nw_al cJ 127 (nw_fl 127 0 P)), (h2, .inr (6, [.ref a2, .int (nI n2)])), (a2, nw_ai cB 60 c2)] H := hP
  replace hD : va_D A [(h, .inr (4, [.ref a, .long (lN 0), .long (lN AO), .int (nI L)])), (a, nw_al cJ 127 (nw_fl 127 0 P)), (h2, .inr (6, [.ref a2, .int (nI n2)])), (a2, nw_ai cB 60 c2)] := hD
  refine lv_aload_n hx hb d_Pat_read_13 rfl (lv_at hl 0 rfl) ?_
  refine lv_lconst (v := lN 0) hx hb d_Pat_read_14 (by decide) ?_
  refine va_put (D := (dC, dI)) (ci := 4) (v := .long (lN 0)) (ty := .long) (C := R_Pat) (T := F_Pat) (N := 4) hx hb hts hin_Pat t_Pat t_Pat_ok n_Pat hown hK hP hD hS 0 rfl rfl 2 (by decide) (hts _ (nw_mc 278 rfl)) (fun _ h9 => h9) rfl (by decide +kernel) rfl rfl (Nat.le_of_ble_eq_true rfl) d_Pat_read_15 (fun H locs hP hD hS => ?_)
  replace hP : va_P (dC, dI) nw_cls [(h, .inr (4, [.ref a, .long (lN 0), .long (lN 0), .int (nI L)])), (a, nw_al cJ 127 (nw_fl 127 0 P)), (h2, .inr (6, [.ref a2, .int (nI n2)])), (a2, nw_ai cB 60 c2)] H := hP
  replace hD : va_D A [(h, .inr (4, [.ref a, .long (lN 0), .long (lN 0), .int (nI L)])), (a, nw_al cJ 127 (nw_fl 127 0 P)), (h2, .inr (6, [.ref a2, .int (nI n2)])), (a2, nw_ai cB 60 c2)] := hD
  refine lv_aload_n hx hb d_Pat_read_18 rfl (lv_at hl 0 rfl) ?_
  refine lv_iconst (v := nI 0) hx hb d_Pat_read_19 (by decide) ?_
  refine va_put (D := (dC, dI)) (ci := 4) (v := .int (nI 0)) (ty := .int) (C := R_Pat) (T := F_Pat) (N := 4) hx hb hts hin_Pat t_Pat t_Pat_ok n_Pat hown hK hP hD hS 0 rfl rfl 3 (by decide) (hts _ (nw_mc 279 rfl)) (fun _ h9 => h9) rfl (by decide +kernel) rfl rfl (Nat.le_of_ble_eq_true rfl) d_Pat_read_20 (fun H locs hP hD hS => ?_)
  replace hP : va_P (dC, dI) nw_cls [(h, .inr (4, [.ref a, .long (lN 0), .long (lN 0), .int (nI 0)])), (a, nw_al cJ 127 (nw_fl 127 0 P)), (h2, .inr (6, [.ref a2, .int (nI n2)])), (a2, nw_ai cB 60 c2)] H := hP
  replace hD : va_D A [(h, .inr (4, [.ref a, .long (lN 0), .long (lN 0), .int (nI 0)])), (a, nw_al cJ 127 (nw_fl 127 0 P)), (h2, .inr (6, [.ref a2, .int (nI n2)])), (a2, nw_ai cB 60 c2)] := hD
  refine lv_iconst (v := nI 0) hx hb d_Pat_read_23 (by decide) ?_
  refine lv_istore_n hx hb d_Pat_read_24 rfl hl (by decide) rfl (fun ls hl => ?_)
  replace hl : lv_has ls 3 [(2, .int (nI 0)), (0, .ref h), (1, .ref h2)] := hl
  refine nw_loopW (σ := Nat × (Nat → Nat) × Nat × Nat × Nat × (Nat → Nat)) (fun x => match x with | (k, P1, R1, O1, L1, q1) => k ≤ n2 ∧ nw_PS P1 R1 O1 L1 q1 ∧ L1 ≤ k ∧ (∀ w i, nw_M c2 w i k = nw_M q1 w i L1) ∧ (1 ≤ k → 1 ≤ L1 ∧ q1 (L1 - 1) = c2 (k - 1))) (fun x => match x with | (k, P1, R1, O1, L1, q1) => [(2, .int (nI k)), (1, .ref h2), (0, .ref h)]) (fun x => match x with | (k, P1, R1, O1, L1, q1) => [(h, .inr (4, [.ref a, .long (lN R1), .long (lN O1), .int (nI L1)])), (a, nw_al cJ 127 P1), (h2, .inr (6, [.ref a2, .int (nI n2)])), (a2, nw_ai cB 60 c2)]) (fun x => match x with | (k, P1, R1, O1, L1, q1) => n2 - k) (fun x hI ih ls H locs hl hP hD hS => ?_) (0, nw_fl 127 0 P, 0, 0, 0, fun _ => 0) (⟨Nat.zero_le _, nw_PS_0 (fun ch hc => if_pos hc), Nat.le_refl _, fun w i => by cases i <;> simp only [nw_M_00, nw_M_s0], fun h => absurd h (by decide)⟩) (lv_sub hl [0, 2, 1] rfl) hP hD hS
  obtain ⟨k, P1, R1, O1, L1, q1⟩ := x
  replace hI : k ≤ n2 ∧ nw_PS P1 R1 O1 L1 q1 ∧ L1 ≤ k ∧ (∀ w i, nw_M c2 w i k = nw_M q1 w i L1) ∧ (1 ≤ k → 1 ≤ L1 ∧ q1 (L1 - 1) = c2 (k - 1)) := hI
  replace hl : lv_has ls 3 [(2, .int (nI k)), (1, .ref h2), (0, .ref h)] := hl
  replace hP : va_P (dC, dI) nw_cls [(h, .inr (4, [.ref a, .long (lN R1), .long (lN O1), .int (nI L1)])), (a, nw_al cJ 127 P1), (h2, .inr (6, [.ref a2, .int (nI n2)])), (a2, nw_ai cB 60 c2)] H := hP
  replace hD : va_D A [(h, .inr (4, [.ref a, .long (lN R1), .long (lN O1), .int (nI L1)])), (a, nw_al cJ 127 P1), (h2, .inr (6, [.ref a2, .int (nI n2)])), (a2, nw_ai cB 60 c2)] := hD
  obtain ⟨hk, hPS, hLk, hM, hl1⟩ := hI
  have hL0 := hPS.1
  have hRb := nw_lt61 hPS.2.2.1 hL0
  have hOb := nw_lt61 hPS.2.2.2.1 hL0
  have hPb : ∀ x, x < 127 → P1 x < 2 ^ 61 := fun x hx => nw_lt61 (hPS.2.2.2.2.1 x hx) hL0
  refine lv_iload_n hx hb d_Pat_read_25 rfl (lv_at hl 0 rfl) ?_
  refine lv_aload_n hx hb d_Pat_read_26 rfl (lv_at hl 1 rfl) ?_
  refine vp_callSi (va_Run.run (va_runV (As := []) (rest := [.int (nI k)]) ⟨hx, hb, hml, hown, hts⟩ (c_Row_length l dC dI h2 a2 n2) (cwV (C := R_Row) 0 hts (nw_GV (nw_m 281 rfl) (nw_m 48 rfl) (nw_m 49 rfl) (nw_m 5 rfl) (nw_m 50 rfl)) rfl rfl rfl (by decide +kernel) ⟨Nat.le_of_ble_eq_true rfl, Nat.le_of_ble_eq_true rfl⟩) (nw_preV (q0 := 2) (ci := 6) (q := (R_Row, F_Row, 2)) hK hP [2] [] rfl rfl rfl rfl) rfl rfl hl.1 rfl (lv_room (Nat.le_of_ble_eq_true rfl)) d_Pat_read_27 ⟨Nat.le_of_ble_eq_true rfl, Nat.le_of_ble_eq_true rfl⟩)) (fun r her => ?_)
  subst her
  refine lv_icmp_ge hx hb d_Pat_read_30 (tgt := 74) (by decide) (fun g1 => ?_) (fun g1 => ?_)
  · rw [nI_leI (by omega) (by omega)] at g1
    have hkn : k = n2 := by omega
    subst hkn
    exact W.vret hx hb hr (fun t ht hW => ⟨⟨(P1, R1, O1, L1, q1), rfl, ⟨hPS, hM⟩, by rw [ht]; exact hP, hD⟩, hS.F ht⟩) hS.2.2 d_Pat_read_74
  · rw [nI_leI (by omega) (by omega)] at g1
    refine lv_iload_n hx hb d_Pat_read_33 rfl (lv_at hl 0 rfl) ?_
    refine lv_if_eq hx hb d_Pat_read_34 (tgt := 59) (by decide) (fun g2 => ?_) (fun g2 => ?_)
    · rw [nw_eq0 (by omega)] at g2
      have hv : 1 ≤ L1 → ¬ (q1 (L1 - 1) = 42 ∧ c2 k = 42) := fun h => by omega
      have hck := hc k
      refine lv_aload_n hx hb d_Pat_read_59 rfl (lv_at hl 2 rfl) ?_
      refine lv_aload_n hx hb d_Pat_read_60 rfl (lv_at hl 1 rfl) ?_
      refine lv_iload_n hx hb d_Pat_read_61 rfl (lv_at hl 0 rfl) ?_
      refine vp_callSi (va_Run.run (va_runV (As := [.int (nI k)]) (rest := [.ref h]) ⟨hx, hb, hml, hown, hts⟩ (c_Row_at l dC dI cB h2 a2 n2 c2 k (by omega)) (cwV (C := R_Row) 1 hts (nw_GV (nw_m 282 rfl) (nw_m 238 rfl) (nw_m 239 rfl) (nw_m 5 rfl) (nw_m 240 rfl)) rfl rfl rfl (by decide +kernel) ⟨Nat.le_of_ble_eq_true rfl, Nat.le_of_ble_eq_true rfl⟩) (nw_preV (q0 := 2) (ci := 6) (q := (R_Row, F_Row, 2)) hK hP [2, 3] [0] rfl rfl rfl rfl) rfl rfl hl.1 rfl (lv_room (Nat.le_of_ble_eq_true rfl)) d_Pat_read_62 ⟨Nat.le_of_ble_eq_true rfl, Nat.le_of_ble_eq_true rfl⟩)) (fun r her => ?_)
      subst her
      by_cases e1 : c2 k = 42
      · refine nw_callv (wc := [(h, .inr (4, [.ref a, .long (lN R1), .long (lN O1), .int (nI L1)])), (a, nw_al cJ 127 P1)]) (wr := [(h2, .inr (6, [.ref a2, .int (nI n2)])), (a2, nw_ai cB 60 c2)]) hP hD hS hA [0, 1] [2, 3] rfl rfl (by decide) (by decide) (va_runV (As := [.int (nI (c2 k))]) (rest := []) ⟨hx, hb, hml, hown, hts⟩ (c_Pat_part_star l dC dI _ cJ h a R1 O1 L1 P1 (c2 k) (by omega) hRb hOb e1) (cwV (C := R_Pat) 1 hts (nw_GV (nw_m 283 rfl) (nw_m 284 rfl) (nw_m 285 rfl) (nw_m 24 rfl) (nw_m 286 rfl)) rfl rfl rfl (by decide +kernel) ⟨Nat.le_of_ble_eq_true rfl, Nat.le_of_ble_eq_true rfl⟩) (nw_prewV (q0 := 0) (ci := 4) (q := (R_Pat, F_Pat, 4)) hK hP hD [0, 1] [1] (by decide) rfl rfl rfl rfl) rfl rfl hl.1 rfl (lv_room (Nat.le_of_ble_eq_true rfl)) d_Pat_read_65 ⟨Nat.le_of_ble_eq_true rfl, Nat.le_of_ble_eq_true rfl⟩) (fun _ H locs hw hP hD hS => ?_)
        replace hP : va_P (dC, dI) nw_cls [(h2, .inr (6, [.ref a2, .int (nI n2)])), (a2, nw_ai cB 60 c2), (h, .inr (4, [.ref a, .long (lN (R1 ||| 2 ^ L1)), .long (lN O1), .int (nI (L1 + 1))])), (a, nw_al cJ 127 P1)] H := hP
        replace hD : va_D A [(h2, .inr (6, [.ref a2, .int (nI n2)])), (a2, nw_ai cB 60 c2), (h, .inr (4, [.ref a, .long (lN (R1 ||| 2 ^ L1)), .long (lN O1), .int (nI (L1 + 1))])), (a, nw_al cJ 127 P1)] := hD
        have hP := hP.sub (ws' := [(h, .inr (4, [.ref a, .long (lN (R1 ||| 2 ^ L1)), .long (lN O1), .int (nI (L1 + 1))])), (a, nw_al cJ 127 P1), (h2, .inr (6, [.ref a2, .int (nI n2)])), (a2, nw_ai cB 60 c2)]) [2, 3, 0, 1] rfl
        have hD := hD.sub (ws' := [(h, .inr (4, [.ref a, .long (lN (R1 ||| 2 ^ L1)), .long (lN O1), .int (nI (L1 + 1))])), (a, nw_al cJ 127 P1), (h2, .inr (6, [.ref a2, .int (nI n2)])), (a2, nw_ai cB 60 c2)]) [2, 3, 0, 1] (by decide) rfl
        refine lv_iinc (v := nI (k + 1)) hx hb d_Pat_read_68 hl (k := 0) rfl (nI_add k 1) (by decide) rfl (fun ls hl => ?_)
        have hl : lv_has ls 3 [(2, .int (nI (k + 1))), (1, .ref h2), (0, .ref h)] := hl
        refine lv_goto hx hb d_Pat_read_71 (tgt := 25) (by decide) ?_
        exact ih (k + 1, P1, R1 ||| 2 ^ L1, O1, L1 + 1, va_up q1 L1 (c2 k)) (⟨by omega, (by rw [e1]; exact nw_PS_star hPS (by omega) (fun h => by have := hv h; rw [e1] at this; exact this)), by omega, fun w i => nw_M_keep (p := c2) (fun i => (hM w i).trans (nw_M_congr (J := L1) (I := i) (fun j hj => (va_up_ne _ _ (by omega)).symm) (fun _ _ => rfl) (i + L1 + 1) i L1 (by omega) (Nat.le_refl _) (Nat.le_refl _))) (by rw [va_up_self]) i, fun _ => ⟨by omega, by rw [Nat.add_sub_cancel, Nat.add_sub_cancel, va_up_self]⟩⟩) (show n2 - (k + 1) < n2 - k by omega) _ _ _ hl hP hD hS
      · by_cases e2 : c2 k = 63
        · refine nw_callv (wc := [(h, .inr (4, [.ref a, .long (lN R1), .long (lN O1), .int (nI L1)])), (a, nw_al cJ 127 P1)]) (wr := [(h2, .inr (6, [.ref a2, .int (nI n2)])), (a2, nw_ai cB 60 c2)]) hP hD hS hA [0, 1] [2, 3] rfl rfl (by decide) (by decide) (va_runV (As := [.int (nI (c2 k))]) (rest := []) ⟨hx, hb, hml, hown, hts⟩ (c_Pat_part_one l dC dI _ cJ h a R1 O1 L1 P1 (c2 k) (by omega) hRb hOb e2) (cwV (C := R_Pat) 1 hts (nw_GV (nw_m 283 rfl) (nw_m 284 rfl) (nw_m 285 rfl) (nw_m 24 rfl) (nw_m 286 rfl)) rfl rfl rfl (by decide +kernel) ⟨Nat.le_of_ble_eq_true rfl, Nat.le_of_ble_eq_true rfl⟩) (nw_prewV (q0 := 0) (ci := 4) (q := (R_Pat, F_Pat, 4)) hK hP hD [0, 1] [1] (by decide) rfl rfl rfl rfl) rfl rfl hl.1 rfl (lv_room (Nat.le_of_ble_eq_true rfl)) d_Pat_read_65 ⟨Nat.le_of_ble_eq_true rfl, Nat.le_of_ble_eq_true rfl⟩) (fun _ H locs hw hP hD hS => ?_)
          replace hP : va_P (dC, dI) nw_cls [(h2, .inr (6, [.ref a2, .int (nI n2)])), (a2, nw_ai cB 60 c2), (h, .inr (4, [.ref a, .long (lN R1), .long (lN (O1 ||| 2 ^ L1)), .int (nI (L1 + 1))])), (a, nw_al cJ 127 P1)] H := hP
          replace hD : va_D A [(h2, .inr (6, [.ref a2, .int (nI n2)])), (a2, nw_ai cB 60 c2), (h, .inr (4, [.ref a, .long (lN R1), .long (lN (O1 ||| 2 ^ L1)), .int (nI (L1 + 1))])), (a, nw_al cJ 127 P1)] := hD
          have hP := hP.sub (ws' := [(h, .inr (4, [.ref a, .long (lN R1), .long (lN (O1 ||| 2 ^ L1)), .int (nI (L1 + 1))])), (a, nw_al cJ 127 P1), (h2, .inr (6, [.ref a2, .int (nI n2)])), (a2, nw_ai cB 60 c2)]) [2, 3, 0, 1] rfl
          have hD := hD.sub (ws' := [(h, .inr (4, [.ref a, .long (lN R1), .long (lN (O1 ||| 2 ^ L1)), .int (nI (L1 + 1))])), (a, nw_al cJ 127 P1), (h2, .inr (6, [.ref a2, .int (nI n2)])), (a2, nw_ai cB 60 c2)]) [2, 3, 0, 1] (by decide) rfl
          refine lv_iinc (v := nI (k + 1)) hx hb d_Pat_read_68 hl (k := 0) rfl (nI_add k 1) (by decide) rfl (fun ls hl => ?_)
          have hl : lv_has ls 3 [(2, .int (nI (k + 1))), (1, .ref h2), (0, .ref h)] := hl
          refine lv_goto hx hb d_Pat_read_71 (tgt := 25) (by decide) ?_
          exact ih (k + 1, P1, R1, O1 ||| 2 ^ L1, L1 + 1, va_up q1 L1 (c2 k)) (⟨by omega, (by rw [e2]; exact nw_PS_one hPS (by omega)), by omega, fun w i => nw_M_keep (p := c2) (fun i => (hM w i).trans (nw_M_congr (J := L1) (I := i) (fun j hj => (va_up_ne _ _ (by omega)).symm) (fun _ _ => rfl) (i + L1 + 1) i L1 (by omega) (Nat.le_refl _) (Nat.le_refl _))) (by rw [va_up_self]) i, fun _ => ⟨by omega, by rw [Nat.add_sub_cancel, Nat.add_sub_cancel, va_up_self]⟩⟩) (show n2 - (k + 1) < n2 - k by omega) _ _ _ hl hP hD hS
        · refine nw_callv (wc := [(h, .inr (4, [.ref a, .long (lN R1), .long (lN O1), .int (nI L1)])), (a, nw_al cJ 127 P1)]) (wr := [(h2, .inr (6, [.ref a2, .int (nI n2)])), (a2, nw_ai cB 60 c2)]) hP hD hS hA [0, 1] [2, 3] rfl rfl (by decide) (by decide) (va_runV (As := [.int (nI (c2 k))]) (rest := []) ⟨hx, hb, hml, hown, hts⟩ (c_Pat_part_chr l dC dI _ cJ h a R1 O1 L1 P1 (c2 k) (by omega) hRb hOb e1 e2 hck hPb) (cwV (C := R_Pat) 1 hts (nw_GV (nw_m 283 rfl) (nw_m 284 rfl) (nw_m 285 rfl) (nw_m 24 rfl) (nw_m 286 rfl)) rfl rfl rfl (by decide +kernel) ⟨Nat.le_of_ble_eq_true rfl, Nat.le_of_ble_eq_true rfl⟩) (nw_prewV (q0 := 0) (ci := 4) (q := (R_Pat, F_Pat, 4)) hK hP hD [0, 1] [1] (by decide) rfl rfl rfl rfl) rfl rfl hl.1 rfl (lv_room (Nat.le_of_ble_eq_true rfl)) d_Pat_read_65 ⟨Nat.le_of_ble_eq_true rfl, Nat.le_of_ble_eq_true rfl⟩) (fun _ H locs hw hP hD hS => ?_)
          replace hP : va_P (dC, dI) nw_cls [(h2, .inr (6, [.ref a2, .int (nI n2)])), (a2, nw_ai cB 60 c2), (h, .inr (4, [.ref a, .long (lN R1), .long (lN O1), .int (nI (L1 + 1))])), (a, nw_al cJ 127 (va_up P1 (c2 k) (P1 (c2 k) ||| 2 ^ L1)))] H := hP
          replace hD : va_D A [(h2, .inr (6, [.ref a2, .int (nI n2)])), (a2, nw_ai cB 60 c2), (h, .inr (4, [.ref a, .long (lN R1), .long (lN O1), .int (nI (L1 + 1))])), (a, nw_al cJ 127 (va_up P1 (c2 k) (P1 (c2 k) ||| 2 ^ L1)))] := hD
          have hP := hP.sub (ws' := [(h, .inr (4, [.ref a, .long (lN R1), .long (lN O1), .int (nI (L1 + 1))])), (a, nw_al cJ 127 (va_up P1 (c2 k) (P1 (c2 k) ||| 2 ^ L1))), (h2, .inr (6, [.ref a2, .int (nI n2)])), (a2, nw_ai cB 60 c2)]) [2, 3, 0, 1] rfl
          have hD := hD.sub (ws' := [(h, .inr (4, [.ref a, .long (lN R1), .long (lN O1), .int (nI (L1 + 1))])), (a, nw_al cJ 127 (va_up P1 (c2 k) (P1 (c2 k) ||| 2 ^ L1))), (h2, .inr (6, [.ref a2, .int (nI n2)])), (a2, nw_ai cB 60 c2)]) [2, 3, 0, 1] (by decide) rfl
          refine lv_iinc (v := nI (k + 1)) hx hb d_Pat_read_68 hl (k := 0) rfl (nI_add k 1) (by decide) rfl (fun ls hl => ?_)
          have hl : lv_has ls 3 [(2, .int (nI (k + 1))), (1, .ref h2), (0, .ref h)] := hl
          refine lv_goto hx hb d_Pat_read_71 (tgt := 25) (by decide) ?_
          exact ih (k + 1, va_up P1 (c2 k) (P1 (c2 k) ||| 2 ^ L1), R1, O1, L1 + 1, va_up q1 L1 (c2 k)) (⟨by omega, nw_PS_chr hPS (by omega) e1 e2 hck, by omega, fun w i => nw_M_keep (p := c2) (fun i => (hM w i).trans (nw_M_congr (J := L1) (I := i) (fun j hj => (va_up_ne _ _ (by omega)).symm) (fun _ _ => rfl) (i + L1 + 1) i L1 (by omega) (Nat.le_refl _) (Nat.le_refl _))) (by rw [va_up_self]) i, fun _ => ⟨by omega, by rw [Nat.add_sub_cancel, Nat.add_sub_cancel, va_up_self]⟩⟩) (show n2 - (k + 1) < n2 - k by omega) _ _ _ hl hP hD hS
    · rw [nw_eq0 (by omega)] at g2
      refine lv_aload_n hx hb d_Pat_read_37 rfl (lv_at hl 1 rfl) ?_
      refine lv_iload_n hx hb d_Pat_read_38 rfl (lv_at hl 0 rfl) ?_
      refine vp_callSi (va_Run.run (va_runV (As := [.int (nI k)]) (rest := []) ⟨hx, hb, hml, hown, hts⟩ (c_Row_at l dC dI cB h2 a2 n2 c2 k (by omega)) (cwV (C := R_Row) 1 hts (nw_GV (nw_m 282 rfl) (nw_m 238 rfl) (nw_m 239 rfl) (nw_m 5 rfl) (nw_m 240 rfl)) rfl rfl rfl (by decide +kernel) ⟨Nat.le_of_ble_eq_true rfl, Nat.le_of_ble_eq_true rfl⟩) (nw_preV (q0 := 2) (ci := 6) (q := (R_Row, F_Row, 2)) hK hP [2, 3] [0] rfl rfl rfl rfl) rfl rfl hl.1 rfl (lv_room (Nat.le_of_ble_eq_true rfl)) d_Pat_read_39 ⟨Nat.le_of_ble_eq_true rfl, Nat.le_of_ble_eq_true rfl⟩)) (fun r her => ?_)
      subst her
      have hck0 := hc k
      refine lv_bipush (v := nI 42) hx hb d_Pat_read_42 (by decide) ?_
      refine lv_icmp_ne hx hb d_Pat_read_44 (tgt := 59) (by decide) (fun g3 => ?_) (fun g3 => ?_)
      · rw [nI_eq (by omega) (by omega)] at g3
        have hv : 1 ≤ L1 → ¬ (q1 (L1 - 1) = 42 ∧ c2 k = 42) := fun _ h => g3 h.2
        have hck := hc k
        refine lv_aload_n hx hb d_Pat_read_59 rfl (lv_at hl 2 rfl) ?_
        refine lv_aload_n hx hb d_Pat_read_60 rfl (lv_at hl 1 rfl) ?_
        refine lv_iload_n hx hb d_Pat_read_61 rfl (lv_at hl 0 rfl) ?_
        refine vp_callSi (va_Run.run (va_runV (As := [.int (nI k)]) (rest := [.ref h]) ⟨hx, hb, hml, hown, hts⟩ (c_Row_at l dC dI cB h2 a2 n2 c2 k (by omega)) (cwV (C := R_Row) 1 hts (nw_GV (nw_m 282 rfl) (nw_m 238 rfl) (nw_m 239 rfl) (nw_m 5 rfl) (nw_m 240 rfl)) rfl rfl rfl (by decide +kernel) ⟨Nat.le_of_ble_eq_true rfl, Nat.le_of_ble_eq_true rfl⟩) (nw_preV (q0 := 2) (ci := 6) (q := (R_Row, F_Row, 2)) hK hP [2, 3] [0] rfl rfl rfl rfl) rfl rfl hl.1 rfl (lv_room (Nat.le_of_ble_eq_true rfl)) d_Pat_read_62 ⟨Nat.le_of_ble_eq_true rfl, Nat.le_of_ble_eq_true rfl⟩)) (fun r her => ?_)
        subst her
        by_cases e1 : c2 k = 42
        · refine nw_callv (wc := [(h, .inr (4, [.ref a, .long (lN R1), .long (lN O1), .int (nI L1)])), (a, nw_al cJ 127 P1)]) (wr := [(h2, .inr (6, [.ref a2, .int (nI n2)])), (a2, nw_ai cB 60 c2)]) hP hD hS hA [0, 1] [2, 3] rfl rfl (by decide) (by decide) (va_runV (As := [.int (nI (c2 k))]) (rest := []) ⟨hx, hb, hml, hown, hts⟩ (c_Pat_part_star l dC dI _ cJ h a R1 O1 L1 P1 (c2 k) (by omega) hRb hOb e1) (cwV (C := R_Pat) 1 hts (nw_GV (nw_m 283 rfl) (nw_m 284 rfl) (nw_m 285 rfl) (nw_m 24 rfl) (nw_m 286 rfl)) rfl rfl rfl (by decide +kernel) ⟨Nat.le_of_ble_eq_true rfl, Nat.le_of_ble_eq_true rfl⟩) (nw_prewV (q0 := 0) (ci := 4) (q := (R_Pat, F_Pat, 4)) hK hP hD [0, 1] [1] (by decide) rfl rfl rfl rfl) rfl rfl hl.1 rfl (lv_room (Nat.le_of_ble_eq_true rfl)) d_Pat_read_65 ⟨Nat.le_of_ble_eq_true rfl, Nat.le_of_ble_eq_true rfl⟩) (fun _ H locs hw hP hD hS => ?_)
          replace hP : va_P (dC, dI) nw_cls [(h2, .inr (6, [.ref a2, .int (nI n2)])), (a2, nw_ai cB 60 c2), (h, .inr (4, [.ref a, .long (lN (R1 ||| 2 ^ L1)), .long (lN O1), .int (nI (L1 + 1))])), (a, nw_al cJ 127 P1)] H := hP
          replace hD : va_D A [(h2, .inr (6, [.ref a2, .int (nI n2)])), (a2, nw_ai cB 60 c2), (h, .inr (4, [.ref a, .long (lN (R1 ||| 2 ^ L1)), .long (lN O1), .int (nI (L1 + 1))])), (a, nw_al cJ 127 P1)] := hD
          have hP := hP.sub (ws' := [(h, .inr (4, [.ref a, .long (lN (R1 ||| 2 ^ L1)), .long (lN O1), .int (nI (L1 + 1))])), (a, nw_al cJ 127 P1), (h2, .inr (6, [.ref a2, .int (nI n2)])), (a2, nw_ai cB 60 c2)]) [2, 3, 0, 1] rfl
          have hD := hD.sub (ws' := [(h, .inr (4, [.ref a, .long (lN (R1 ||| 2 ^ L1)), .long (lN O1), .int (nI (L1 + 1))])), (a, nw_al cJ 127 P1), (h2, .inr (6, [.ref a2, .int (nI n2)])), (a2, nw_ai cB 60 c2)]) [2, 3, 0, 1] (by decide) rfl
          refine lv_iinc (v := nI (k + 1)) hx hb d_Pat_read_68 hl (k := 0) rfl (nI_add k 1) (by decide) rfl (fun ls hl => ?_)
          have hl : lv_has ls 3 [(2, .int (nI (k + 1))), (1, .ref h2), (0, .ref h)] := hl
          refine lv_goto hx hb d_Pat_read_71 (tgt := 25) (by decide) ?_
          exact ih (k + 1, P1, R1 ||| 2 ^ L1, O1, L1 + 1, va_up q1 L1 (c2 k)) (⟨by omega, (by rw [e1]; exact nw_PS_star hPS (by omega) (fun h => by have := hv h; rw [e1] at this; exact this)), by omega, fun w i => nw_M_keep (p := c2) (fun i => (hM w i).trans (nw_M_congr (J := L1) (I := i) (fun j hj => (va_up_ne _ _ (by omega)).symm) (fun _ _ => rfl) (i + L1 + 1) i L1 (by omega) (Nat.le_refl _) (Nat.le_refl _))) (by rw [va_up_self]) i, fun _ => ⟨by omega, by rw [Nat.add_sub_cancel, Nat.add_sub_cancel, va_up_self]⟩⟩) (show n2 - (k + 1) < n2 - k by omega) _ _ _ hl hP hD hS
        · by_cases e2 : c2 k = 63
          · refine nw_callv (wc := [(h, .inr (4, [.ref a, .long (lN R1), .long (lN O1), .int (nI L1)])), (a, nw_al cJ 127 P1)]) (wr := [(h2, .inr (6, [.ref a2, .int (nI n2)])), (a2, nw_ai cB 60 c2)]) hP hD hS hA [0, 1] [2, 3] rfl rfl (by decide) (by decide) (va_runV (As := [.int (nI (c2 k))]) (rest := []) ⟨hx, hb, hml, hown, hts⟩ (c_Pat_part_one l dC dI _ cJ h a R1 O1 L1 P1 (c2 k) (by omega) hRb hOb e2) (cwV (C := R_Pat) 1 hts (nw_GV (nw_m 283 rfl) (nw_m 284 rfl) (nw_m 285 rfl) (nw_m 24 rfl) (nw_m 286 rfl)) rfl rfl rfl (by decide +kernel) ⟨Nat.le_of_ble_eq_true rfl, Nat.le_of_ble_eq_true rfl⟩) (nw_prewV (q0 := 0) (ci := 4) (q := (R_Pat, F_Pat, 4)) hK hP hD [0, 1] [1] (by decide) rfl rfl rfl rfl) rfl rfl hl.1 rfl (lv_room (Nat.le_of_ble_eq_true rfl)) d_Pat_read_65 ⟨Nat.le_of_ble_eq_true rfl, Nat.le_of_ble_eq_true rfl⟩) (fun _ H locs hw hP hD hS => ?_)
            replace hP : va_P (dC, dI) nw_cls [(h2, .inr (6, [.ref a2, .int (nI n2)])), (a2, nw_ai cB 60 c2), (h, .inr (4, [.ref a, .long (lN R1), .long (lN (O1 ||| 2 ^ L1)), .int (nI (L1 + 1))])), (a, nw_al cJ 127 P1)] H := hP
            replace hD : va_D A [(h2, .inr (6, [.ref a2, .int (nI n2)])), (a2, nw_ai cB 60 c2), (h, .inr (4, [.ref a, .long (lN R1), .long (lN (O1 ||| 2 ^ L1)), .int (nI (L1 + 1))])), (a, nw_al cJ 127 P1)] := hD
            have hP := hP.sub (ws' := [(h, .inr (4, [.ref a, .long (lN R1), .long (lN (O1 ||| 2 ^ L1)), .int (nI (L1 + 1))])), (a, nw_al cJ 127 P1), (h2, .inr (6, [.ref a2, .int (nI n2)])), (a2, nw_ai cB 60 c2)]) [2, 3, 0, 1] rfl
            have hD := hD.sub (ws' := [(h, .inr (4, [.ref a, .long (lN R1), .long (lN (O1 ||| 2 ^ L1)), .int (nI (L1 + 1))])), (a, nw_al cJ 127 P1), (h2, .inr (6, [.ref a2, .int (nI n2)])), (a2, nw_ai cB 60 c2)]) [2, 3, 0, 1] (by decide) rfl
            refine lv_iinc (v := nI (k + 1)) hx hb d_Pat_read_68 hl (k := 0) rfl (nI_add k 1) (by decide) rfl (fun ls hl => ?_)
            have hl : lv_has ls 3 [(2, .int (nI (k + 1))), (1, .ref h2), (0, .ref h)] := hl
            refine lv_goto hx hb d_Pat_read_71 (tgt := 25) (by decide) ?_
            exact ih (k + 1, P1, R1, O1 ||| 2 ^ L1, L1 + 1, va_up q1 L1 (c2 k)) (⟨by omega, (by rw [e2]; exact nw_PS_one hPS (by omega)), by omega, fun w i => nw_M_keep (p := c2) (fun i => (hM w i).trans (nw_M_congr (J := L1) (I := i) (fun j hj => (va_up_ne _ _ (by omega)).symm) (fun _ _ => rfl) (i + L1 + 1) i L1 (by omega) (Nat.le_refl _) (Nat.le_refl _))) (by rw [va_up_self]) i, fun _ => ⟨by omega, by rw [Nat.add_sub_cancel, Nat.add_sub_cancel, va_up_self]⟩⟩) (show n2 - (k + 1) < n2 - k by omega) _ _ _ hl hP hD hS
          · refine nw_callv (wc := [(h, .inr (4, [.ref a, .long (lN R1), .long (lN O1), .int (nI L1)])), (a, nw_al cJ 127 P1)]) (wr := [(h2, .inr (6, [.ref a2, .int (nI n2)])), (a2, nw_ai cB 60 c2)]) hP hD hS hA [0, 1] [2, 3] rfl rfl (by decide) (by decide) (va_runV (As := [.int (nI (c2 k))]) (rest := []) ⟨hx, hb, hml, hown, hts⟩ (c_Pat_part_chr l dC dI _ cJ h a R1 O1 L1 P1 (c2 k) (by omega) hRb hOb e1 e2 hck hPb) (cwV (C := R_Pat) 1 hts (nw_GV (nw_m 283 rfl) (nw_m 284 rfl) (nw_m 285 rfl) (nw_m 24 rfl) (nw_m 286 rfl)) rfl rfl rfl (by decide +kernel) ⟨Nat.le_of_ble_eq_true rfl, Nat.le_of_ble_eq_true rfl⟩) (nw_prewV (q0 := 0) (ci := 4) (q := (R_Pat, F_Pat, 4)) hK hP hD [0, 1] [1] (by decide) rfl rfl rfl rfl) rfl rfl hl.1 rfl (lv_room (Nat.le_of_ble_eq_true rfl)) d_Pat_read_65 ⟨Nat.le_of_ble_eq_true rfl, Nat.le_of_ble_eq_true rfl⟩) (fun _ H locs hw hP hD hS => ?_)
            replace hP : va_P (dC, dI) nw_cls [(h2, .inr (6, [.ref a2, .int (nI n2)])), (a2, nw_ai cB 60 c2), (h, .inr (4, [.ref a, .long (lN R1), .long (lN O1), .int (nI (L1 + 1))])), (a, nw_al cJ 127 (va_up P1 (c2 k) (P1 (c2 k) ||| 2 ^ L1)))] H := hP
            replace hD : va_D A [(h2, .inr (6, [.ref a2, .int (nI n2)])), (a2, nw_ai cB 60 c2), (h, .inr (4, [.ref a, .long (lN R1), .long (lN O1), .int (nI (L1 + 1))])), (a, nw_al cJ 127 (va_up P1 (c2 k) (P1 (c2 k) ||| 2 ^ L1)))] := hD
            have hP := hP.sub (ws' := [(h, .inr (4, [.ref a, .long (lN R1), .long (lN O1), .int (nI (L1 + 1))])), (a, nw_al cJ 127 (va_up P1 (c2 k) (P1 (c2 k) ||| 2 ^ L1))), (h2, .inr (6, [.ref a2, .int (nI n2)])), (a2, nw_ai cB 60 c2)]) [2, 3, 0, 1] rfl
            have hD := hD.sub (ws' := [(h, .inr (4, [.ref a, .long (lN R1), .long (lN O1), .int (nI (L1 + 1))])), (a, nw_al cJ 127 (va_up P1 (c2 k) (P1 (c2 k) ||| 2 ^ L1))), (h2, .inr (6, [.ref a2, .int (nI n2)])), (a2, nw_ai cB 60 c2)]) [2, 3, 0, 1] (by decide) rfl
            refine lv_iinc (v := nI (k + 1)) hx hb d_Pat_read_68 hl (k := 0) rfl (nI_add k 1) (by decide) rfl (fun ls hl => ?_)
            have hl : lv_has ls 3 [(2, .int (nI (k + 1))), (1, .ref h2), (0, .ref h)] := hl
            refine lv_goto hx hb d_Pat_read_71 (tgt := 25) (by decide) ?_
            exact ih (k + 1, va_up P1 (c2 k) (P1 (c2 k) ||| 2 ^ L1), R1, O1, L1 + 1, va_up q1 L1 (c2 k)) (⟨by omega, nw_PS_chr hPS (by omega) e1 e2 hck, by omega, fun w i => nw_M_keep (p := c2) (fun i => (hM w i).trans (nw_M_congr (J := L1) (I := i) (fun j hj => (va_up_ne _ _ (by omega)).symm) (fun _ _ => rfl) (i + L1 + 1) i L1 (by omega) (Nat.le_refl _) (Nat.le_refl _))) (by rw [va_up_self]) i, fun _ => ⟨by omega, by rw [Nat.add_sub_cancel, Nat.add_sub_cancel, va_up_self]⟩⟩) (show n2 - (k + 1) < n2 - k by omega) _ _ _ hl hP hD hS
      · rw [nI_eq (by omega) (by omega)] at g3
        refine lv_aload_n hx hb d_Pat_read_47 rfl (lv_at hl 1 rfl) ?_
        refine lv_iload_n hx hb d_Pat_read_48 rfl (lv_at hl 0 rfl) ?_
        refine lv_iconst (v := nI 1) hx hb d_Pat_read_49 (by decide) ?_
        refine lv_isub hx hb d_Pat_read_50 ?_
        refine nw_ti (pk_sub (a := k) (b := 1) (by omega)) ?_
        have hck1 := hc (k - 1)
        refine vp_callSi (va_Run.run (va_runV (As := [.int (nI (k - 1))]) (rest := []) ⟨hx, hb, hml, hown, hts⟩ (c_Row_at l dC dI cB h2 a2 n2 c2 (k - 1) (by omega)) (cwV (C := R_Row) 1 hts (nw_GV (nw_m 282 rfl) (nw_m 238 rfl) (nw_m 239 rfl) (nw_m 5 rfl) (nw_m 240 rfl)) rfl rfl rfl (by decide +kernel) ⟨Nat.le_of_ble_eq_true rfl, Nat.le_of_ble_eq_true rfl⟩) (nw_preV (q0 := 2) (ci := 6) (q := (R_Row, F_Row, 2)) hK hP [2, 3] [0] rfl rfl rfl rfl) rfl rfl hl.1 rfl (lv_room (Nat.le_of_ble_eq_true rfl)) d_Pat_read_51 ⟨Nat.le_of_ble_eq_true rfl, Nat.le_of_ble_eq_true rfl⟩)) (fun r her => ?_)
        subst her
        refine lv_bipush (v := nI 42) hx hb d_Pat_read_54 (by decide) ?_
        refine lv_icmp_eq hx hb d_Pat_read_56 (tgt := 68) (by decide) (fun g4 => ?_) (fun g4 => ?_)
        · rw [nI_eq (by omega) (by omega)] at g4
          refine lv_iinc (v := nI (k + 1)) hx hb d_Pat_read_68 hl (k := 0) rfl (nI_add k 1) (by decide) rfl (fun ls hl => ?_)
          have hl : lv_has ls 3 [(2, .int (nI (k + 1))), (1, .ref h2), (0, .ref h)] := hl
          refine lv_goto hx hb d_Pat_read_71 (tgt := 25) (by decide) ?_
          exact ih (k + 1, P1, R1, O1, L1, q1) (⟨by omega, hPS, by omega, fun w i => by
            obtain ⟨j, rfl⟩ : ∃ j, k = j + 1 := ⟨k - 1, by omega⟩
            rw [nw_M_2 (by rw [Nat.add_sub_cancel] at g4; exact g4) g3 i]
            exact hM w i, fun _ => ⟨(hl1 (by omega)).1, by rw [(hl1 (by omega)).2, g4, Nat.add_sub_cancel, g3]⟩⟩) (show n2 - (k + 1) < n2 - k by omega) _ _ _ hl hP hD hS
        · rw [nI_eq (by omega) (by omega)] at g4
          have hv : 1 ≤ L1 → ¬ (q1 (L1 - 1) = 42 ∧ c2 k = 42) := fun h hh => g4 ((hl1 (by omega)).2 ▸ hh.1)
          have hck := hc k
          refine lv_aload_n hx hb d_Pat_read_59 rfl (lv_at hl 2 rfl) ?_
          refine lv_aload_n hx hb d_Pat_read_60 rfl (lv_at hl 1 rfl) ?_
          refine lv_iload_n hx hb d_Pat_read_61 rfl (lv_at hl 0 rfl) ?_
          refine vp_callSi (va_Run.run (va_runV (As := [.int (nI k)]) (rest := [.ref h]) ⟨hx, hb, hml, hown, hts⟩ (c_Row_at l dC dI cB h2 a2 n2 c2 k (by omega)) (cwV (C := R_Row) 1 hts (nw_GV (nw_m 282 rfl) (nw_m 238 rfl) (nw_m 239 rfl) (nw_m 5 rfl) (nw_m 240 rfl)) rfl rfl rfl (by decide +kernel) ⟨Nat.le_of_ble_eq_true rfl, Nat.le_of_ble_eq_true rfl⟩) (nw_preV (q0 := 2) (ci := 6) (q := (R_Row, F_Row, 2)) hK hP [2, 3] [0] rfl rfl rfl rfl) rfl rfl hl.1 rfl (lv_room (Nat.le_of_ble_eq_true rfl)) d_Pat_read_62 ⟨Nat.le_of_ble_eq_true rfl, Nat.le_of_ble_eq_true rfl⟩)) (fun r her => ?_)
          subst her
          by_cases e1 : c2 k = 42
          · refine nw_callv (wc := [(h, .inr (4, [.ref a, .long (lN R1), .long (lN O1), .int (nI L1)])), (a, nw_al cJ 127 P1)]) (wr := [(h2, .inr (6, [.ref a2, .int (nI n2)])), (a2, nw_ai cB 60 c2)]) hP hD hS hA [0, 1] [2, 3] rfl rfl (by decide) (by decide) (va_runV (As := [.int (nI (c2 k))]) (rest := []) ⟨hx, hb, hml, hown, hts⟩ (c_Pat_part_star l dC dI _ cJ h a R1 O1 L1 P1 (c2 k) (by omega) hRb hOb e1) (cwV (C := R_Pat) 1 hts (nw_GV (nw_m 283 rfl) (nw_m 284 rfl) (nw_m 285 rfl) (nw_m 24 rfl) (nw_m 286 rfl)) rfl rfl rfl (by decide +kernel) ⟨Nat.le_of_ble_eq_true rfl, Nat.le_of_ble_eq_true rfl⟩) (nw_prewV (q0 := 0) (ci := 4) (q := (R_Pat, F_Pat, 4)) hK hP hD [0, 1] [1] (by decide) rfl rfl rfl rfl) rfl rfl hl.1 rfl (lv_room (Nat.le_of_ble_eq_true rfl)) d_Pat_read_65 ⟨Nat.le_of_ble_eq_true rfl, Nat.le_of_ble_eq_true rfl⟩) (fun _ H locs hw hP hD hS => ?_)
            replace hP : va_P (dC, dI) nw_cls [(h2, .inr (6, [.ref a2, .int (nI n2)])), (a2, nw_ai cB 60 c2), (h, .inr (4, [.ref a, .long (lN (R1 ||| 2 ^ L1)), .long (lN O1), .int (nI (L1 + 1))])), (a, nw_al cJ 127 P1)] H := hP
            replace hD : va_D A [(h2, .inr (6, [.ref a2, .int (nI n2)])), (a2, nw_ai cB 60 c2), (h, .inr (4, [.ref a, .long (lN (R1 ||| 2 ^ L1)), .long (lN O1), .int (nI (L1 + 1))])), (a, nw_al cJ 127 P1)] := hD
            have hP := hP.sub (ws' := [(h, .inr (4, [.ref a, .long (lN (R1 ||| 2 ^ L1)), .long (lN O1), .int (nI (L1 + 1))])), (a, nw_al cJ 127 P1), (h2, .inr (6, [.ref a2, .int (nI n2)])), (a2, nw_ai cB 60 c2)]) [2, 3, 0, 1] rfl
            have hD := hD.sub (ws' := [(h, .inr (4, [.ref a, .long (lN (R1 ||| 2 ^ L1)), .long (lN O1), .int (nI (L1 + 1))])), (a, nw_al cJ 127 P1), (h2, .inr (6, [.ref a2, .int (nI n2)])), (a2, nw_ai cB 60 c2)]) [2, 3, 0, 1] (by decide) rfl
            refine lv_iinc (v := nI (k + 1)) hx hb d_Pat_read_68 hl (k := 0) rfl (nI_add k 1) (by decide) rfl (fun ls hl => ?_)
            have hl : lv_has ls 3 [(2, .int (nI (k + 1))), (1, .ref h2), (0, .ref h)] := hl
            refine lv_goto hx hb d_Pat_read_71 (tgt := 25) (by decide) ?_
            exact ih (k + 1, P1, R1 ||| 2 ^ L1, O1, L1 + 1, va_up q1 L1 (c2 k)) (⟨by omega, (by rw [e1]; exact nw_PS_star hPS (by omega) (fun h => by have := hv h; rw [e1] at this; exact this)), by omega, fun w i => nw_M_keep (p := c2) (fun i => (hM w i).trans (nw_M_congr (J := L1) (I := i) (fun j hj => (va_up_ne _ _ (by omega)).symm) (fun _ _ => rfl) (i + L1 + 1) i L1 (by omega) (Nat.le_refl _) (Nat.le_refl _))) (by rw [va_up_self]) i, fun _ => ⟨by omega, by rw [Nat.add_sub_cancel, Nat.add_sub_cancel, va_up_self]⟩⟩) (show n2 - (k + 1) < n2 - k by omega) _ _ _ hl hP hD hS
          · by_cases e2 : c2 k = 63
            · refine nw_callv (wc := [(h, .inr (4, [.ref a, .long (lN R1), .long (lN O1), .int (nI L1)])), (a, nw_al cJ 127 P1)]) (wr := [(h2, .inr (6, [.ref a2, .int (nI n2)])), (a2, nw_ai cB 60 c2)]) hP hD hS hA [0, 1] [2, 3] rfl rfl (by decide) (by decide) (va_runV (As := [.int (nI (c2 k))]) (rest := []) ⟨hx, hb, hml, hown, hts⟩ (c_Pat_part_one l dC dI _ cJ h a R1 O1 L1 P1 (c2 k) (by omega) hRb hOb e2) (cwV (C := R_Pat) 1 hts (nw_GV (nw_m 283 rfl) (nw_m 284 rfl) (nw_m 285 rfl) (nw_m 24 rfl) (nw_m 286 rfl)) rfl rfl rfl (by decide +kernel) ⟨Nat.le_of_ble_eq_true rfl, Nat.le_of_ble_eq_true rfl⟩) (nw_prewV (q0 := 0) (ci := 4) (q := (R_Pat, F_Pat, 4)) hK hP hD [0, 1] [1] (by decide) rfl rfl rfl rfl) rfl rfl hl.1 rfl (lv_room (Nat.le_of_ble_eq_true rfl)) d_Pat_read_65 ⟨Nat.le_of_ble_eq_true rfl, Nat.le_of_ble_eq_true rfl⟩) (fun _ H locs hw hP hD hS => ?_)
              replace hP : va_P (dC, dI) nw_cls [(h2, .inr (6, [.ref a2, .int (nI n2)])), (a2, nw_ai cB 60 c2), (h, .inr (4, [.ref a, .long (lN R1), .long (lN (O1 ||| 2 ^ L1)), .int (nI (L1 + 1))])), (a, nw_al cJ 127 P1)] H := hP
              replace hD : va_D A [(h2, .inr (6, [.ref a2, .int (nI n2)])), (a2, nw_ai cB 60 c2), (h, .inr (4, [.ref a, .long (lN R1), .long (lN (O1 ||| 2 ^ L1)), .int (nI (L1 + 1))])), (a, nw_al cJ 127 P1)] := hD
              have hP := hP.sub (ws' := [(h, .inr (4, [.ref a, .long (lN R1), .long (lN (O1 ||| 2 ^ L1)), .int (nI (L1 + 1))])), (a, nw_al cJ 127 P1), (h2, .inr (6, [.ref a2, .int (nI n2)])), (a2, nw_ai cB 60 c2)]) [2, 3, 0, 1] rfl
              have hD := hD.sub (ws' := [(h, .inr (4, [.ref a, .long (lN R1), .long (lN (O1 ||| 2 ^ L1)), .int (nI (L1 + 1))])), (a, nw_al cJ 127 P1), (h2, .inr (6, [.ref a2, .int (nI n2)])), (a2, nw_ai cB 60 c2)]) [2, 3, 0, 1] (by decide) rfl
              refine lv_iinc (v := nI (k + 1)) hx hb d_Pat_read_68 hl (k := 0) rfl (nI_add k 1) (by decide) rfl (fun ls hl => ?_)
              have hl : lv_has ls 3 [(2, .int (nI (k + 1))), (1, .ref h2), (0, .ref h)] := hl
              refine lv_goto hx hb d_Pat_read_71 (tgt := 25) (by decide) ?_
              exact ih (k + 1, P1, R1, O1 ||| 2 ^ L1, L1 + 1, va_up q1 L1 (c2 k)) (⟨by omega, (by rw [e2]; exact nw_PS_one hPS (by omega)), by omega, fun w i => nw_M_keep (p := c2) (fun i => (hM w i).trans (nw_M_congr (J := L1) (I := i) (fun j hj => (va_up_ne _ _ (by omega)).symm) (fun _ _ => rfl) (i + L1 + 1) i L1 (by omega) (Nat.le_refl _) (Nat.le_refl _))) (by rw [va_up_self]) i, fun _ => ⟨by omega, by rw [Nat.add_sub_cancel, Nat.add_sub_cancel, va_up_self]⟩⟩) (show n2 - (k + 1) < n2 - k by omega) _ _ _ hl hP hD hS
            · refine nw_callv (wc := [(h, .inr (4, [.ref a, .long (lN R1), .long (lN O1), .int (nI L1)])), (a, nw_al cJ 127 P1)]) (wr := [(h2, .inr (6, [.ref a2, .int (nI n2)])), (a2, nw_ai cB 60 c2)]) hP hD hS hA [0, 1] [2, 3] rfl rfl (by decide) (by decide) (va_runV (As := [.int (nI (c2 k))]) (rest := []) ⟨hx, hb, hml, hown, hts⟩ (c_Pat_part_chr l dC dI _ cJ h a R1 O1 L1 P1 (c2 k) (by omega) hRb hOb e1 e2 hck hPb) (cwV (C := R_Pat) 1 hts (nw_GV (nw_m 283 rfl) (nw_m 284 rfl) (nw_m 285 rfl) (nw_m 24 rfl) (nw_m 286 rfl)) rfl rfl rfl (by decide +kernel) ⟨Nat.le_of_ble_eq_true rfl, Nat.le_of_ble_eq_true rfl⟩) (nw_prewV (q0 := 0) (ci := 4) (q := (R_Pat, F_Pat, 4)) hK hP hD [0, 1] [1] (by decide) rfl rfl rfl rfl) rfl rfl hl.1 rfl (lv_room (Nat.le_of_ble_eq_true rfl)) d_Pat_read_65 ⟨Nat.le_of_ble_eq_true rfl, Nat.le_of_ble_eq_true rfl⟩) (fun _ H locs hw hP hD hS => ?_)
              replace hP : va_P (dC, dI) nw_cls [(h2, .inr (6, [.ref a2, .int (nI n2)])), (a2, nw_ai cB 60 c2), (h, .inr (4, [.ref a, .long (lN R1), .long (lN O1), .int (nI (L1 + 1))])), (a, nw_al cJ 127 (va_up P1 (c2 k) (P1 (c2 k) ||| 2 ^ L1)))] H := hP
              replace hD : va_D A [(h2, .inr (6, [.ref a2, .int (nI n2)])), (a2, nw_ai cB 60 c2), (h, .inr (4, [.ref a, .long (lN R1), .long (lN O1), .int (nI (L1 + 1))])), (a, nw_al cJ 127 (va_up P1 (c2 k) (P1 (c2 k) ||| 2 ^ L1)))] := hD
              have hP := hP.sub (ws' := [(h, .inr (4, [.ref a, .long (lN R1), .long (lN O1), .int (nI (L1 + 1))])), (a, nw_al cJ 127 (va_up P1 (c2 k) (P1 (c2 k) ||| 2 ^ L1))), (h2, .inr (6, [.ref a2, .int (nI n2)])), (a2, nw_ai cB 60 c2)]) [2, 3, 0, 1] rfl
              have hD := hD.sub (ws' := [(h, .inr (4, [.ref a, .long (lN R1), .long (lN O1), .int (nI (L1 + 1))])), (a, nw_al cJ 127 (va_up P1 (c2 k) (P1 (c2 k) ||| 2 ^ L1))), (h2, .inr (6, [.ref a2, .int (nI n2)])), (a2, nw_ai cB 60 c2)]) [2, 3, 0, 1] (by decide) rfl
              refine lv_iinc (v := nI (k + 1)) hx hb d_Pat_read_68 hl (k := 0) rfl (nI_add k 1) (by decide) rfl (fun ls hl => ?_)
              have hl : lv_has ls 3 [(2, .int (nI (k + 1))), (1, .ref h2), (0, .ref h)] := hl
              refine lv_goto hx hb d_Pat_read_71 (tgt := 25) (by decide) ?_
              exact ih (k + 1, va_up P1 (c2 k) (P1 (c2 k) ||| 2 ^ L1), R1, O1, L1 + 1, va_up q1 L1 (c2 k)) (⟨by omega, nw_PS_chr hPS (by omega) e1 e2 hck, by omega, fun w i => nw_M_keep (p := c2) (fun i => (hM w i).trans (nw_M_congr (J := L1) (I := i) (fun j hj => (va_up_ne _ _ (by omega)).symm) (fun _ _ => rfl) (i + L1 + 1) i L1 (by omega) (Nat.le_refl _) (Nat.le_refl _))) (by rw [va_up_self]) i, fun _ => ⟨by omega, by rw [Nat.add_sub_cancel, Nat.add_sub_cancel, va_up_self]⟩⟩) (show n2 - (k + 1) < n2 - k by omega) _ _ _ hl hP hD hS

set_option maxHeartbeats 4000000 in
set_option maxRecDepth 100000 in
theorem c_Pat_fits (l : Launch) (dC : Nat → ClassId) (dI : Nat → Nat → Nat) (cB cI cJ : ClassId) (h a AR AO L : Nat) (P q : Nat → Nat) (h1 a1 b1 n1 : Nat) (C st : Nat → Nat) (i : Nat) (hPS : nw_PS P AR AO L q) (hi : i < 1000) (hm : st i ≤ st (i + 1) ∧ st (i + 1) ≤ 12000) (hC : ∀ j, C j < 127) : Met l y_Pat_fits w_Pat_fits ({ frames := 1, cells := 0, slots := 0, locals := 22 }) (nw_Pr [.ref h, .ref h1, .int (nI i)] (dC, dI) nw_cls [(cB, .byte), (cI, .int), (cJ, .long)] [(h, .inr (4, [.ref a, .long (lN AR), .long (lN AO), .int (nI L)])), (a, nw_al cJ 127 P), (h1, .inr (7, [.ref a1, .ref b1, .int (nI n1)])), (a1, nw_ai cB 12000 C), (b1, nw_ai cI 1001 st)]) (vp_Si (fun r => r = nI ((nw_M q (fun k => C (st i + k)) (st (i + 1) - st i) L).toNat))) 0 0 (fun _ => False) := by
  refine Met.ofW (cc := b_Pat_fits) (maxL := 9) (ret := (some .boolean)) (by decide) rfl ?_
  intro p e s m args below meth cd s₁ B hml hv0
  obtain ⟨rfl, hP, hK⟩ := hv0
  have hx := B.exec
  have hb := B.bytes
  have hr := B.returns
  have hts := atoms_spec (ws := w_Pat_fits) B.pre
  have hown : s.vm.findClass R_Pat = some m.cls := findClass_of_methodNamed B.named
  have hlocks := B.notSynchronized
  have hl := lv_entry ([.ref h, .ref h1, .int (nI i)]) (n := 9) (Nat.le_of_ble_eq_true rfl)
  rw [lg_entry_eq]
  generalize (lg_sl ([.ref h, .ref h1, .int (nI i)]) ++ List.replicate (9 - (lg_sl ([.ref h, .ref h1, .int (nI i)])).length) Slot.unset).toArray = ls at hl ⊢
  have hl : lv_has ls 9 [(0, .ref h), (1, .ref h1), (2, .int (nI i))] := hl
  have hL0 := hPS.1
  have hRb := nw_lt61 hPS.2.2.1 hL0
  have hR0 := nw_lt60 hPS.2.2.1 hL0
  have hO0 := nw_lt60 hPS.2.2.2.1 hL0
  refine lv_aload_n hx hb d_Pat_fits_0 rfl (lv_at hl 0 rfl) ?_
  refine lv_lconst (v := lN 1) hx hb d_Pat_fits_1 (by decide) ?_
  refine vp_callSl (va_Run.run (va_runV (As := [.long (lN 1)]) (rest := []) ⟨hx, hb, hml, hown, hts⟩ (c_Pat_over l dC dI h a AR AO L 1 hRb (by decide)) (cwV (C := R_Pat) 1 hts (nw_GV (nw_m 287 rfl) (nw_m 288 rfl) (nw_m 289 rfl) (nw_m 24 rfl) (nw_m 290 rfl)) rfl rfl rfl (by decide +kernel) ⟨Nat.le_of_ble_eq_true rfl, Nat.le_of_ble_eq_true rfl⟩) (nw_preV (q0 := 0) (ci := 4) (q := (R_Pat, F_Pat, 4)) hK hP [0] [] rfl rfl rfl rfl) rfl rfl hl.1 rfl (lv_room (Nat.le_of_ble_eq_true rfl)) d_Pat_fits_2 ⟨Nat.le_of_ble_eq_true rfl, Nat.le_of_ble_eq_true rfl⟩)) (fun r her => ?_)
  subst her
  refine lv_lstore_n hx hb d_Pat_fits_5 rfl hl (by decide) rfl (fun ls hl => ?_)
  replace hl : lv_has ls 9 [(3, .long (lN (nw_ov AR 1))), (0, .ref h), (1, .ref h1), (2, .int (nI i))] := hl
  refine lv_aload_n hx hb d_Pat_fits_6 rfl (lv_at hl 2 rfl) ?_
  refine lv_iload_n hx hb d_Pat_fits_7 rfl (lv_at hl 3 rfl) ?_
  refine vp_callSi (va_Run.run (va_runV (As := [.int (nI i)]) (rest := []) ⟨hx, hb, hml, hown, hts⟩ (c_WL_lengthOf l dC dI cI h1 a1 b1 n1 st i (by omega) hm.1) (cwV (C := R_WL) 1 hts (nw_GV (nw_m 291 rfl) (nw_m 101 rfl) (nw_m 102 rfl) (nw_m 12 rfl) (nw_m 103 rfl)) rfl rfl rfl (by decide +kernel) ⟨Nat.le_of_ble_eq_true rfl, Nat.le_of_ble_eq_true rfl⟩) (nw_preV (q0 := 2) (ci := 7) (q := (R_WL, F_WL, 3)) hK hP [2, 4] [1] rfl rfl rfl rfl) rfl rfl hl.1 rfl (lv_room (Nat.le_of_ble_eq_true rfl)) d_Pat_fits_8 ⟨Nat.le_of_ble_eq_true rfl, Nat.le_of_ble_eq_true rfl⟩)) (fun r her => ?_)
  subst her
  refine lv_istore hx hb d_Pat_fits_11 hl (by decide) rfl (fun ls hl => ?_)
  replace hl : lv_has ls 9 [(5, .int (nI (st (i + 1) - st i))), (3, .long (lN (nw_ov AR 1))), (0, .ref h), (1, .ref h1), (2, .int (nI i))] := hl
  refine lv_iconst (v := nI 0) hx hb d_Pat_fits_13 (by decide) ?_
  refine lv_istore hx hb d_Pat_fits_14 hl (by decide) rfl (fun ls hl => ?_)
  replace hl : lv_has ls 9 [(6, .int (nI 0)), (5, .int (nI (st (i + 1) - st i))), (3, .long (lN (nw_ov AR 1))), (0, .ref h), (1, .ref h1), (2, .int (nI i))] := hl
  refine nw_loopR (σ := Nat × Nat) (fun x => match x with | (k, r) => k ≤ (st (i + 1) - st i) ∧ nw_RS q (fun k => C (st i + k)) L k r) (fun x => match x with | (k, r) => [(6, .int (nI k)), (5, .int (nI (st (i + 1) - st i))), (3, .long (lN r)), (2, .int (nI i)), (1, .ref h1), (0, .ref h)]) (fun x => match x with | (k, r) => (st (i + 1) - st i) - k) (fun x hI ih ls hl => ?_) (0, nw_ov AR 1) (⟨Nat.zero_le _, nw_RS_0 hPS⟩) (lv_sub hl [0, 1, 2, 5, 4, 3] rfl)
  obtain ⟨k, r⟩ := x
  replace hI : k ≤ (st (i + 1) - st i) ∧ nw_RS q (fun k => C (st i + k)) L k r := hI
  replace hl : lv_has ls 9 [(6, .int (nI k)), (5, .int (nI (st (i + 1) - st i))), (3, .long (lN r)), (2, .int (nI i)), (1, .ref h1), (0, .ref h)] := hl
  obtain ⟨hk, hRS⟩ := hI
  have hr61 := hRS.1
  have hr64 := nw_s64 hr61
  refine lv_iload hx hb d_Pat_fits_16 (lv_at hl 0 rfl) ?_
  refine lv_iload hx hb d_Pat_fits_18 (lv_at hl 1 rfl) ?_
  refine lv_icmp_ge hx hb d_Pat_fits_20 (tgt := 72) (by decide) (fun g1 => ?_) (fun g1 => ?_)
  · rw [nI_leI (by omega) (by omega)] at g1
    have hkl : k = (st (i + 1) - st i) := by omega
    have hE : r.testBit L = nw_M q (fun k => C (st i + k)) (st (i + 1) - st i) L := by rw [← hkl]; exact nw_RS_end hRS
    refine lv_lload_n hx hb d_Pat_fits_72 rfl (lv_at hl 2 rfl) ?_
    refine lv_aload_n hx hb d_Pat_fits_73 rfl (lv_at hl 5 rfl) ?_
    refine va_get (D := (dC, dI)) (ci := 4) (v := .int (nI L)) (C := R_Pat) (T := F_Pat) (N := 4) hx hb hts hin_Pat hown hK hP 0 rfl rfl 3 (by decide) (hts _ (nw_mc 279 rfl)) (fun _ h9 => h9) rfl d_Pat_fits_74 ?_
    refine lv_lushr (v := lN (r / 2 ^ L)) hx hb d_Pat_fits_77 (wb_shr hr64 (by omega)) ?_
    have hd64 : r / 2 ^ L < 2 ^ 64 := Nat.lt_of_le_of_lt (Nat.div_le_self _ _) hr64
    refine lv_lconst (v := lN 1) hx hb d_Pat_fits_78 (by decide) ?_
    refine lv_land hx hb d_Pat_fits_79 ?_
    refine nw_tl (y := lN (r / 2 ^ L % 2)) (nw_a1 hd64) ?_
    refine lv_lconst (v := lN 0) hx hb d_Pat_fits_80 (by decide) ?_
    refine W.lcmp hx hb d_Pat_fits_81 ?_
    refine lv_if_eq hx hb d_Pat_fits_82 (tgt := 89) (by decide) (fun g9 => ?_) (fun g9 => ?_)
    · rw [nw_lc (Nat.lt_trans (Nat.mod_lt _ (by decide)) (by decide)), nw_tbd, hE] at g9
      refine lv_iconst (v := nI 0) hx hb d_Pat_fits_89 (by decide) ?_
      exact W.zret (v := nI 0) hx hb hr rfl (fun t ht hW => ⟨_, rfl, by rw [g9]; rfl, ht⟩) (fun q hq => by cases hq) d_Pat_fits_90
    · rw [nw_lc (Nat.lt_trans (Nat.mod_lt _ (by decide)) (by decide)), nw_tbd, hE] at g9
      have g8 := Bool.not_eq_false _ |>.mp g9
      refine lv_iconst (v := nI 1) hx hb d_Pat_fits_85 (by decide) ?_
      refine lv_goto hx hb d_Pat_fits_86 (tgt := 90) (by decide) ?_
      exact W.zret (v := nI 1) hx hb hr rfl (fun t ht hW => ⟨_, rfl, by rw [g8]; rfl, ht⟩) (fun q hq => by cases hq) d_Pat_fits_90
  · rw [nI_leI (by omega) (by omega)] at g1
    refine lv_lload_n hx hb d_Pat_fits_23 rfl (lv_at hl 2 rfl) ?_
    refine lv_lconst (v := lN 0) hx hb d_Pat_fits_24 (by decide) ?_
    refine W.lcmp hx hb d_Pat_fits_25 ?_
    refine lv_if_eq hx hb d_Pat_fits_26 (tgt := 72) (by decide) (fun g2 => ?_) (fun g2 => ?_)
    · rw [nw_lc hr64] at g2
      have hE : r.testBit L = nw_M q (fun k => C (st i + k)) (st (i + 1) - st i) L := by rw [g2] at hRS ⊢; exact nw_RS_dead hPS.2.1 hRS hk
      refine lv_lload_n hx hb d_Pat_fits_72 rfl (lv_at hl 2 rfl) ?_
      refine lv_aload_n hx hb d_Pat_fits_73 rfl (lv_at hl 5 rfl) ?_
      refine va_get (D := (dC, dI)) (ci := 4) (v := .int (nI L)) (C := R_Pat) (T := F_Pat) (N := 4) hx hb hts hin_Pat hown hK hP 0 rfl rfl 3 (by decide) (hts _ (nw_mc 279 rfl)) (fun _ h9 => h9) rfl d_Pat_fits_74 ?_
      refine lv_lushr (v := lN (r / 2 ^ L)) hx hb d_Pat_fits_77 (wb_shr hr64 (by omega)) ?_
      have hd64 : r / 2 ^ L < 2 ^ 64 := Nat.lt_of_le_of_lt (Nat.div_le_self _ _) hr64
      refine lv_lconst (v := lN 1) hx hb d_Pat_fits_78 (by decide) ?_
      refine lv_land hx hb d_Pat_fits_79 ?_
      refine nw_tl (y := lN (r / 2 ^ L % 2)) (nw_a1 hd64) ?_
      refine lv_lconst (v := lN 0) hx hb d_Pat_fits_80 (by decide) ?_
      refine W.lcmp hx hb d_Pat_fits_81 ?_
      refine lv_if_eq hx hb d_Pat_fits_82 (tgt := 89) (by decide) (fun g9 => ?_) (fun g9 => ?_)
      · rw [nw_lc (Nat.lt_trans (Nat.mod_lt _ (by decide)) (by decide)), nw_tbd, hE] at g9
        refine lv_iconst (v := nI 0) hx hb d_Pat_fits_89 (by decide) ?_
        exact W.zret (v := nI 0) hx hb hr rfl (fun t ht hW => ⟨_, rfl, by rw [g9]; rfl, ht⟩) (fun q hq => by cases hq) d_Pat_fits_90
      · rw [nw_lc (Nat.lt_trans (Nat.mod_lt _ (by decide)) (by decide)), nw_tbd, hE] at g9
        have g8 := Bool.not_eq_false _ |>.mp g9
        refine lv_iconst (v := nI 1) hx hb d_Pat_fits_85 (by decide) ?_
        refine lv_goto hx hb d_Pat_fits_86 (tgt := 90) (by decide) ?_
        exact W.zret (v := nI 1) hx hb hr rfl (fun t ht hW => ⟨_, rfl, by rw [g8]; rfl, ht⟩) (fun q hq => by cases hq) d_Pat_fits_90
    · refine lv_lload_n hx hb d_Pat_fits_29 rfl (lv_at hl 2 rfl) ?_
      refine lv_aload_n hx hb d_Pat_fits_30 rfl (lv_at hl 5 rfl) ?_
      refine va_get (D := (dC, dI)) (ci := 4) (v := .ref a) (C := R_Pat) (T := F_Pat) (N := 4) hx hb hts hin_Pat hown hK hP 0 rfl rfl 0 (by decide) (hts _ (nw_mc 276 rfl)) (fun _ h9 => h9) rfl d_Pat_fits_31 ?_
      refine lv_aload_n hx hb d_Pat_fits_34 rfl (lv_at hl 4 rfl) ?_
      refine lv_iload_n hx hb d_Pat_fits_35 rfl (lv_at hl 3 rfl) ?_
      refine lv_iload hx hb d_Pat_fits_36 (lv_at hl 0 rfl) ?_
      refine vp_callSi (va_Run.run (va_runV (As := [.int (nI i), .int (nI k)]) (rest := [.ref a, .long (lN r)]) ⟨hx, hb, hml, hown, hts⟩ (c_WL_at l dC dI cB cI h1 a1 b1 n1 C st i k (by omega) (by omega)) (cwV (C := R_WL) 2 hts (nw_GV (nw_m 292 rfl) (nw_m 246 rfl) (nw_m 247 rfl) (nw_m 12 rfl) (nw_m 248 rfl)) rfl rfl rfl (by decide +kernel) ⟨Nat.le_of_ble_eq_true rfl, Nat.le_of_ble_eq_true rfl⟩) (nw_preV (q0 := 2) (ci := 7) (q := (R_WL, F_WL, 3)) hK hP [2, 3, 4] [0, 1] rfl rfl rfl rfl) rfl rfl hl.1 rfl (lv_room (Nat.le_of_ble_eq_true rfl)) d_Pat_fits_38 ⟨Nat.le_of_ble_eq_true rfl, Nat.le_of_ble_eq_true rfl⟩)) (fun r her => ?_)
      subst her
      have hck := hC (st i + k)
      have hP0 := nw_lt60 (hPS.2.2.2.2.1 _ hck) hL0
      refine nw_lald hx hb hK hP 1 2 rfl rfl (k := (C (st i + k))) (by omega) (by first | decide | omega) d_Pat_fits_41 ?_
      refine lv_aload_n hx hb d_Pat_fits_42 rfl (lv_at hl 5 rfl) ?_
      refine va_get (D := (dC, dI)) (ci := 4) (v := .long (lN AO)) (C := R_Pat) (T := F_Pat) (N := 4) hx hb hts hin_Pat hown hK hP 0 rfl rfl 2 (by decide) (hts _ (nw_mc 278 rfl)) (fun _ h9 => h9) rfl d_Pat_fits_43 ?_
      refine lv_lor hx hb d_Pat_fits_46 ?_
      refine lv_land hx hb d_Pat_fits_47 ?_
      refine lv_lstore hx hb d_Pat_fits_48 hl (by decide) rfl (fun ls hl => ?_)
      replace hl : lv_has ls 9 [(7, .long ((lN r) &&& ((lN (P (C (st i + k)))) ||| (lN AO)))), (6, .int (nI k)), (5, .int (nI (st (i + 1) - st i))), (3, .long (lN r)), (2, .int (nI i)), (1, .ref h1), (0, .ref h)] := hl
      refine lv_aload_n hx hb d_Pat_fits_50 rfl (lv_at hl 6 rfl) ?_
      refine lv_lload hx hb d_Pat_fits_51 (lv_at hl 0 rfl) ?_
      refine lv_iconst (v := nI 1) hx hb d_Pat_fits_53 (by decide) ?_
      refine lv_lshl (v := (lN r &&& (lN (P (C (st i + k))) ||| lN AO)) <<< ((nI 1).toInt64 &&& 63)) hx hb d_Pat_fits_54 (rfl) ?_
      refine lv_lload_n hx hb d_Pat_fits_55 rfl (lv_at hl 3 rfl) ?_
      refine lv_aload_n hx hb d_Pat_fits_56 rfl (lv_at hl 6 rfl) ?_
      refine va_get (D := (dC, dI)) (ci := 4) (v := .long (lN AR)) (C := R_Pat) (T := F_Pat) (N := 4) hx hb hts hin_Pat hown hK hP 0 rfl rfl 1 (by decide) (hts _ (nw_mc 277 rfl)) (fun _ h9 => h9) rfl d_Pat_fits_57 ?_
      refine lv_land hx hb d_Pat_fits_60 ?_
      refine lv_lor hx hb d_Pat_fits_61 ?_
      have hZ := nw_psL hR0 hO0 hP0 hr61
      refine nw_tl (y := lN (((r &&& (P (C (st i + k)) ||| AO)) * 2 ^ 1) ||| (r &&& AR))) (hZ.1) ?_
      refine vp_callSl (va_Run.run (va_runV (As := [.long (lN (((r &&& (P (C (st i + k)) ||| AO)) * 2 ^ 1) ||| (r &&& AR)))]) (rest := []) ⟨hx, hb, hml, hown, hts⟩ (c_Pat_over l dC dI h a AR AO L (((r &&& (P (C (st i + k)) ||| AO)) * 2 ^ 1) ||| (r &&& AR)) hRb hZ.2) (cwV (C := R_Pat) 1 hts (nw_GV (nw_m 287 rfl) (nw_m 288 rfl) (nw_m 289 rfl) (nw_m 24 rfl) (nw_m 290 rfl)) rfl rfl rfl (by decide +kernel) ⟨Nat.le_of_ble_eq_true rfl, Nat.le_of_ble_eq_true rfl⟩) (nw_preV (q0 := 0) (ci := 4) (q := (R_Pat, F_Pat, 4)) hK hP [0] [] rfl rfl rfl rfl) rfl rfl hl.1 rfl (lv_room (Nat.le_of_ble_eq_true rfl)) d_Pat_fits_62 ⟨Nat.le_of_ble_eq_true rfl, Nat.le_of_ble_eq_true rfl⟩)) (fun r her => ?_)
      subst her
      refine lv_lstore_n hx hb d_Pat_fits_65 rfl hl (by decide) rfl (fun ls hl => ?_)
      replace hl : lv_has ls 9 [(3, .long (lN (nw_ov AR (((r &&& (P (C (st i + k)) ||| AO)) * 2 ^ 1) ||| (r &&& AR))))), (7, .long ((lN r) &&& ((lN (P (C (st i + k)))) ||| (lN AO)))), (6, .int (nI k)), (5, .int (nI (st (i + 1) - st i))), (2, .int (nI i)), (1, .ref h1), (0, .ref h)] := hl
      refine lv_iinc (v := nI (k + 1)) hx hb d_Pat_fits_66 hl (k := 2) rfl (nI_add k 1) (by decide) rfl (fun ls hl => ?_)
      have hl : lv_has ls 9 [(6, .int (nI (k + 1))), (3, .long (lN (nw_ov AR (((r &&& (P (C (st i + k)) ||| AO)) * 2 ^ 1) ||| (r &&& AR))))), (7, .long ((lN r) &&& ((lN (P (C (st i + k)))) ||| (lN AO)))), (5, .int (nI (st (i + 1) - st i))), (2, .int (nI i)), (1, .ref h1), (0, .ref h)] := hl
      refine lv_goto hx hb d_Pat_fits_69 (tgt := 16) (by decide) ?_
      exact ih (k + 1, nw_ov AR (((r &&& (P (C (st i + k)) ||| AO)) * 2 ^ 1) ||| (r &&& AR))) (⟨by omega, nw_RS_s (w := (fun k => C (st i + k))) hPS hRS hck⟩) (show (st (i + 1) - st i) - (k + 1) < (st (i + 1) - st i) - k by omega) _ (lv_sub hl [0, 3, 1, 4, 5, 6] rfl)
