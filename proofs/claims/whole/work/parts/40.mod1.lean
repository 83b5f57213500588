set_option maxHeartbeats 4000000 in
set_option maxRecDepth 100000 in
theorem c_Mod_thrown (l : Launch) (dC : Nat → ClassId) (dI : Nat → Nat → Nat) (hM ai aw ar al aL aD ac af ap an ax isz wn chn rn th : Nat) : Met l y_Mod_thrown w_Mod_thrown ({ frames := 0, cells := 0, slots := 0, locals := 0 }) (nw_Pr [.ref hM] (dC, dI) nw_cls [] [(hM, .inr (1, [.ref ai, .ref aw, .ref ar, .ref al, .ref aL, .ref aD, .ref ac, .ref af, .ref ap, .ref an, .ref ax, .int (nI isz), .int (nI wn), .int (nI chn), .int (nI rn), .int (nI th)]))]) (vp_Si (fun r => r = nI th)) 0 0 (fun _ => False) := by
  refine Met.ofW (cc := b_Mod_thrown) (maxL := 1) (ret := (some .int)) (by decide) rfl ?_
  intro p e s m args below meth cd s₁ B hml hv0
  obtain ⟨rfl, hP, hK⟩ := hv0
  have hx := B.exec
  have hb := B.bytes
  have hr := B.returns
  have hts := atoms_spec (ws := w_Mod_thrown) B.pre
  have hown : s.vm.findClass R_Mod = some m.cls := findClass_of_methodNamed B.named
  have hlocks := B.notSynchronized
  have hl := lv_entry ([.ref hM]) (n := 1) (Nat.le_of_ble_eq_true rfl)
  rw [lg_entry_eq]
  generalize (lg_sl ([.ref hM]) ++ List.replicate (1 - (lg_sl ([.ref hM])).length) Slot.unset).toArray = ls at hl ⊢
  have hl : lv_has ls 1 [(0, .ref hM)] := hl
  refine lv_aload_n hx hb d_Mod_thrown_0 rfl (lv_at hl 0 rfl) ?_
  refine va_get (D := (dC, dI)) (ci := 1) (v := .int (nI th)) (C := R_Mod) (T := F_Mod) (N := 16) hx hb hts hin_Mod hown hK hP 0 rfl rfl 15 (by decide) (hts _ (nw_mc 187 rfl)) (fun _ h9 => h9) rfl d_Mod_thrown_1 ?_
  exact W.iret (v := nI th) hx hb hr (fun t ht hW => ⟨_, rfl, rfl, ht⟩) (fun q hq => by cases hq) d_Mod_thrown_4

set_option maxHeartbeats 4000000 in
set_option maxRecDepth 100000 in
theorem c_Mod_least (l : Launch) (dC : Nat → ClassId) (dI : Nat → Nat → Nat) (a b : Nat) (ha : a < 2 ^ 31) (hb0 : b < 2 ^ 31) : Met l y_Mod_least w_Mod_least ({ frames := 0, cells := 0, slots := 0, locals := 0 }) (nw_Pr [.int (nI a), .int (nI b)] (dC, dI) nw_cls [] []) (vp_Si (fun r => r = nI (min a b))) 0 0 (fun _ => False) := by
  refine Met.ofW (cc := b_Mod_least) (maxL := 2) (ret := (some .int)) (by decide) rfl ?_
  intro p e s m args below meth cd s₁ B hml hv0
  obtain ⟨rfl, hP, hK⟩ := hv0
  have hx := B.exec
  have hb := B.bytes
  have hr := B.returns
  have hts := atoms_spec (ws := w_Mod_least) B.pre
  have hown : s.vm.findClass R_Mod = some m.cls := findClass_of_methodNamed B.named
  have hlocks := B.notSynchronized
  have hl := lv_entry ([.int (nI a), .int (nI b)]) (n := 2) (Nat.le_of_ble_eq_true rfl)
  rw [lg_entry_eq]
  generalize (lg_sl ([.int (nI a), .int (nI b)]) ++ List.replicate (2 - (lg_sl ([.int (nI a), .int (nI b)])).length) Slot.unset).toArray = ls at hl ⊢
  have hl : lv_has ls 2 [(0, .int (nI a)), (1, .int (nI b))] := hl
  refine lv_iload_n hx hb d_Mod_least_0 rfl (lv_at hl 0 rfl) ?_
  refine lv_iload_n hx hb d_Mod_least_1 rfl (lv_at hl 1 rfl) ?_
  refine lv_icmp_ge hx hb d_Mod_least_2 (tgt := 9) (by decide) (fun hc1 => ?_) (fun hc1 => ?_)
  · rw [nI_leI (by omega) (by omega)] at hc1
    refine lv_iload_n hx hb d_Mod_least_9 rfl (lv_at hl 1 rfl) ?_
    refine nw_ti (y := nI (min a b)) (congrArg nI (show b = min a b by omega)) ?_
    exact W.iret (v := nI (min a b)) hx hb hr (fun t ht hW => ⟨_, rfl, rfl, ht⟩) (fun q hq => by cases hq) d_Mod_least_10
  · rw [nI_leI (by omega) (by omega)] at hc1
    refine lv_iload_n hx hb d_Mod_least_5 rfl (lv_at hl 0 rfl) ?_
    refine lv_goto hx hb d_Mod_least_6 (tgt := 10) (by decide) ?_
    refine nw_ti (y := nI (min a b)) (congrArg nI (show a = min a b by omega)) ?_
    exact W.iret (v := nI (min a b)) hx hb hr (fun t ht hW => ⟨_, rfl, rfl, ht⟩) (fun q hq => by cases hq) d_Mod_least_10

set_option maxHeartbeats 4000000 in
set_option maxRecDepth 100000 in
theorem c_Mod_take (l : Launch) (dC : Nat → ClassId) (dI : Nat → Nat → Nat) (sz : Nat) (hM ai aw ar al aL aD ac af ap an ax isz wn chn rn th : Nat) : Met l y_Mod_take w_Mod_take ({ frames := 0, cells := 0, slots := 0, locals := 0 }) (nw_Pw [.ref hM] (dC, dI) nw_cls [] [(hM, .inr (1, [.ref ai, .ref aw, .ref ar, .ref al, .ref aL, .ref aD, .ref ac, .ref af, .ref ap, .ref an, .ref ax, .int (nI isz), .int (nI wn), .int (nI chn), .int (nI rn), .int (nI th)]))] sz) (va_Qi (fun (r : Int32) (_ : Unit) => r = nI isz) (nw_B (dC, dI) nw_cls (va_A [(hM, .inr (1, [.ref ai, .ref aw, .ref ar, .ref al, .ref aL, .ref aD, .ref ac, .ref af, .ref ap, .ref an, .ref ax, .int (nI isz), .int (nI wn), .int (nI chn), .int (nI rn), .int (nI th)]))] sz) (fun _ : Unit => [(hM, .inr (1, [.ref ai, .ref aw, .ref ar, .ref al, .ref aL, .ref aD, .ref ac, .ref af, .ref ap, .ref an, .ref ax, .int (nI 0), .int (nI wn), .int (nI chn), .int (nI rn), .int (nI th)]))])) (va_A [(hM, .inr (1, [.ref ai, .ref aw, .ref ar, .ref al, .ref aL, .ref aD, .ref ac, .ref af, .ref ap, .ref an, .ref ax, .int (nI isz), .int (nI wn), .int (nI chn), .int (nI rn), .int (nI th)]))] sz)) 0 0 (va_A [(hM, .inr (1, [.ref ai, .ref aw, .ref ar, .ref al, .ref aL, .ref aD, .ref ac, .ref af, .ref ap, .ref an, .ref ax, .int (nI isz), .int (nI wn), .int (nI chn), .int (nI rn), .int (nI th)]))] sz) := by
  refine Met.ofW (cc := b_Mod_take) (maxL := 2) (ret := (some .int)) (by decide) rfl ?_
  intro p e s m args below meth cd s₁ B hml hv0
  obtain ⟨rfl, hsz, hP, hK, hD0⟩ := hv0
  have hx := B.exec
  have hb := B.bytes
  have hr := B.returns
  have hts := atoms_spec (ws := w_Mod_take) B.pre
  have hown : s.vm.findClass R_Mod = some m.cls := findClass_of_methodNamed B.named
  have hlocks := B.notSynchronized
  subst hsz
  have hD := hD0.self (sz := s.heap.size)
  generalize hAe : va_A [(hM, .inr (1, [.ref ai, .ref aw, .ref ar, .ref al, .ref aL, .ref aD, .ref ac, .ref af, .ref ap, .ref an, .ref ax, .int (nI isz), .int (nI wn), .int (nI chn), .int (nI rn), .int (nI th)]))] s.heap.size = A at hD ⊢
  have hA : ∀ q : Nat, s.heap.size ≤ q → A q := fun q h => by rw [← hAe]; exact Or.inr h
  have hS : va_S A s.heap s.heap [] := va_S.rf
  have hl := lv_entry ([.ref hM]) (n := 2) (Nat.le_of_ble_eq_true rfl)
  rw [lg_entry_eq]
  generalize (lg_sl ([.ref hM]) ++ List.replicate (2 - (lg_sl ([.ref hM])).length) Slot.unset).toArray = ls at hl ⊢
  have hl : lv_has ls 2 [(0, .ref hM)] := hl
  refine lv_aload_n hx hb d_Mod_take_0 rfl (lv_at hl 0 rfl) ?_
  refine va_get (D := (dC, dI)) (ci := 1) (v := .int (nI isz)) (C := R_Mod) (T := F_Mod) (N := 16) hx hb hts hin_Mod hown hK hP 0 rfl rfl 11 (by decide) (hts _ (nw_mc 188 rfl)) (fun _ h9 => h9) rfl d_Mod_take_1 ?_
  refine lv_istore_n hx hb d_Mod_take_4 rfl hl (by decide) rfl (fun ls hl => ?_)
  replace hl : lv_has ls 2 [(1, .int (nI isz)), (0, .ref hM)] := hl
  refine lv_aload_n hx hb d_Mod_take_5 rfl (lv_at hl 1 rfl) ?_
  refine lv_iconst (v := nI 0) hx hb d_Mod_take_6 (by decide) ?_
  refine va_put (D := (dC, dI)) (ci := 1) (v := .int (nI 0)) (ty := .int) (C := R_Mod) (T := F_Mod) (N := 16) hx hb hts hin_Mod t_Mod t_Mod_ok n_Mod hown hK hP hD hS 0 rfl rfl 11 (by decide) (hts _ (nw_mc 188 rfl)) (fun _ h9 => h9) rfl (by decide +kernel) rfl rfl (Nat.le_of_ble_eq_true rfl) d_Mod_take_7 (fun H locs hP hD hS => ?_)
  replace hP : va_P (dC, dI) nw_cls [(hM, .inr (1, [.ref ai, .ref aw, .ref ar, .ref al, .ref aL, .ref aD, .ref ac, .ref af, .ref ap, .ref an, .ref ax, .int (nI 0), .int (nI wn), .int (nI chn), .int (nI rn), .int (nI th)]))] H := hP
  replace hD : va_D A [(hM, .inr (1, [.ref ai, .ref aw, .ref ar, .ref al, .ref aL, .ref aD, .ref ac, .ref af, .ref ap, .ref an, .ref ax, .int (nI 0), .int (nI wn), .int (nI chn), .int (nI rn), .int (nI th)]))] := hD
  refine lv_iload_n hx hb d_Mod_take_10 rfl (lv_at hl 0 rfl) ?_
  exact W.iret (v := nI isz) hx hb hr (fun t ht hW => ⟨⟨_, (), rfl, rfl, by rw [ht]; exact hP, hD⟩, hS.F ht⟩) hS.2.2 d_Mod_take_11

set_option maxHeartbeats 4000000 in
set_option maxRecDepth 100000 in
theorem c_Mod_order (l : Launch) (dC : Nat → ClassId) (dI : Nat → Nat → Nat) (cB cI : ClassId) (hM ai aw ar al aL aD ac af ap an ax isz wn chn rn th : Nat) (I X Ln : Nat → Nat) (i n : Nat) (hi : i < 1000) (hn : n ≤ 60) (hL : Ln i ≤ 60) (hX : ∀ j, X j < 128) (hI0 : ∀ j, I j < 128) : Met l y_Mod_order w_Mod_order ({ frames := 1, cells := 0, slots := 0, locals := 21 }) (nw_Pr [.ref hM, .int (nI i), .int (nI n)] (dC, dI) nw_cls [(cB, .byte), (cI, .int)] [(hM, .inr (1, [.ref ai, .ref aw, .ref ar, .ref al, .ref aL, .ref aD, .ref ac, .ref af, .ref ap, .ref an, .ref ax, .int (nI isz), .int (nI wn), .int (nI chn), .int (nI rn), .int (nI th)])), (ai, nw_ai cB 60 I), (aw, nw_ai cB 60000 X), (al, nw_ai cI 1000 Ln)]) (vp_Si (fun r => r = nw_cm (fun k => X (i * 60 + k)) (Ln i) I n)) 0 0 (fun _ => False) := by
  refine Met.ofW (cc := b_Mod_order) (maxL := 5) (ret := (some .int)) (by decide) rfl ?_
  intro p e s m args below meth cd s₁ B hml hv0
  obtain ⟨rfl, hP, hK⟩ := hv0
  have hx := B.exec
  have hb := B.bytes
  have hr := B.returns
  have hts := atoms_spec (ws := w_Mod_order) B.pre
  have hown : s.vm.findClass R_Mod = some m.cls := findClass_of_methodNamed B.named
  have hlocks := B.notSynchronized
  have hl := lv_entry ([.ref hM, .int (nI i), .int (nI n)]) (n := 5) (Nat.le_of_ble_eq_true rfl)
  rw [lg_entry_eq]
  generalize (lg_sl ([.ref hM, .int (nI i), .int (nI n)]) ++ List.replicate (5 - (lg_sl ([.ref hM, .int (nI i), .int (nI n)])).length) Slot.unset).toArray = ls at hl ⊢
  have hl : lv_has ls 5 [(0, .ref hM), (1, .int (nI i)), (2, .int (nI n))] := hl
  refine lv_iload_n hx hb d_Mod_order_0 rfl (lv_at hl 2 rfl) ?_
  refine lv_aload_n hx hb d_Mod_order_1 rfl (lv_at hl 0 rfl) ?_
  refine va_get (D := (dC, dI)) (ci := 1) (v := .ref al) (C := R_Mod) (T := F_Mod) (N := 16) hx hb hts hin_Mod hown hK hP 0 rfl rfl 3 (by decide) (hts _ (nw_mc 178 rfl)) (fun _ h9 => h9) rfl d_Mod_order_2 ?_
  refine lv_iload_n hx hb d_Mod_order_5 rfl (lv_at hl 1 rfl) ?_
  refine nw_iald hx hb hK hP 3 1 rfl rfl (k := i) (by omega) (by first | decide | omega) d_Mod_order_6 ?_
  refine vp_callSi (va_Run.run (va_runS (As := [.int (nI n), .int (nI (Ln i))]) (rest := []) ⟨hx, hb, hml, hown, hts⟩ (c_Mod_least l dC dI n (Ln i) (by omega) (by omega)) (cwS 2 hts (nw_GS (nw_m 189 rfl) (nw_m 190 rfl) (nw_m 191 rfl) (nw_m 192 rfl)) rfl rfl rfl (by decide +kernel) ⟨Nat.le_of_ble_eq_true rfl, Nat.le_of_ble_eq_true rfl⟩) (nw_preS hK hP [] [] rfl rfl) rfl rfl hl.1 rfl (lv_room (Nat.le_of_ble_eq_true rfl)) d_Mod_order_7 ⟨Nat.le_of_ble_eq_true rfl, Nat.le_of_ble_eq_true rfl⟩)) (fun r her => ?_)
  subst her
  refine lv_istore_n hx hb d_Mod_order_10 rfl hl (by decide) rfl (fun ls hl => ?_)
  replace hl : lv_has ls 5 [(3, .int (nI (min n (Ln i)))), (0, .ref hM), (1, .int (nI i)), (2, .int (nI n))] := hl
  refine lv_iconst (v := nI 0) hx hb d_Mod_order_11 (by decide) ?_
  refine lv_istore hx hb d_Mod_order_12 hl (by decide) rfl (fun ls hl => ?_)
  replace hl : lv_has ls 5 [(4, .int (nI 0)), (3, .int (nI (min n (Ln i)))), (0, .ref hM), (1, .int (nI i)), (2, .int (nI n))] := hl
  rw [Nat.min_comm n (Ln i)] at hl
  have hl : lv_has ls 5 [(4, .int (nI 0)), (3, .int (nI (min (Ln i) n))), (0, .ref hM), (1, .int (nI i)), (2, .int (nI n))] := hl
  refine nw_loopR (σ := Nat) (fun k => k ≤ min (Ln i) n ∧ nw_cm (fun k => X (i * 60 + k)) (Ln i) I n = nw_cmp (fun k => X (i * 60 + k)) I (Ln i) n (min (Ln i) n - k) k) (fun k => [(4, .int (nI k)), (3, .int (nI (min (Ln i) n))), (0, .ref hM), (1, .int (nI i)), (2, .int (nI n))]) (fun k => min (Ln i) n - k) (fun x hI ih ls hl => ?_) 0 (⟨Nat.zero_le _, rfl⟩) hl
  obtain ⟨k, hx9⟩ : ∃ z, z = x := ⟨x, rfl⟩
  subst hx9
  replace hI : k ≤ min (Ln i) n ∧ nw_cm (fun k => X (i * 60 + k)) (Ln i) I n = nw_cmp (fun k => X (i * 60 + k)) I (Ln i) n (min (Ln i) n - k) k := hI
  replace hl : lv_has ls 5 [(4, .int (nI k)), (3, .int (nI (min (Ln i) n))), (0, .ref hM), (1, .int (nI i)), (2, .int (nI n))] := hl
  obtain ⟨hk, he⟩ := hI
  refine lv_iload hx hb d_Mod_order_14 (lv_at hl 0 rfl) ?_
  refine lv_iload_n hx hb d_Mod_order_16 rfl (lv_at hl 1 rfl) ?_
  refine lv_icmp_ge hx hb d_Mod_order_17 (tgt := 69) (by decide) (fun hc1 => ?_) (fun hc1 => ?_)
  · rw [nI_leI (by omega) (by omega)] at hc1
    refine lv_aload_n hx hb d_Mod_order_69 rfl (lv_at hl 2 rfl) ?_
    refine va_get (D := (dC, dI)) (ci := 1) (v := .ref al) (C := R_Mod) (T := F_Mod) (N := 16) hx hb hts hin_Mod hown hK hP 0 rfl rfl 3 (by decide) (hts _ (nw_mc 178 rfl)) (fun _ h9 => h9) rfl d_Mod_order_70 ?_
    refine lv_iload_n hx hb d_Mod_order_73 rfl (lv_at hl 3 rfl) ?_
    refine nw_iald hx hb hK hP 3 1 rfl rfl (k := i) (by omega) (by first | decide | omega) d_Mod_order_74 ?_
    refine lv_iload_n hx hb d_Mod_order_75 rfl (lv_at hl 4 rfl) ?_
    refine lv_isub hx hb d_Mod_order_76 ?_
    exact W.iret (v := (nI (Ln i)) - (nI n)) hx hb hr (fun t ht hW => ⟨_, rfl, by rw [he, nw_cmp_end (by omega)], ht⟩) (fun q hq => by cases hq) d_Mod_order_77
  · rw [nI_leI (by omega) (by omega)] at hc1
    refine lv_aload_n hx hb d_Mod_order_20 rfl (lv_at hl 2 rfl) ?_
    refine va_get (D := (dC, dI)) (ci := 1) (v := .ref aw) (C := R_Mod) (T := F_Mod) (N := 16) hx hb hts hin_Mod hown hK hP 0 rfl rfl 1 (by decide) (hts _ (nw_mc 175 rfl)) (fun _ h9 => h9) rfl d_Mod_order_21 ?_
    refine lv_iload_n hx hb d_Mod_order_24 rfl (lv_at hl 3 rfl) ?_
    refine lv_bipush (v := nI 60) hx hb d_Mod_order_25 (by decide) ?_
    refine lv_imul hx hb d_Mod_order_27 ?_
    refine nw_ti (pk_mul i 60) ?_
    refine lv_iload hx hb d_Mod_order_28 (lv_at hl 0 rfl) ?_
    refine lv_iadd hx hb d_Mod_order_30 ?_
    refine nw_ti (nI_add (i * 60) k) ?_
    refine nw_bald hx hb hK hP 2 0 rfl rfl (k := ((i * 60) + k)) (by omega) (by first | decide | omega) d_Mod_order_31 ?_
    refine lv_aload_n hx hb d_Mod_order_32 rfl (lv_at hl 2 rfl) ?_
    refine va_get (D := (dC, dI)) (ci := 1) (v := .ref ai) (C := R_Mod) (T := F_Mod) (N := 16) hx hb hts hin_Mod hown hK hP 0 rfl rfl 0 (by decide) (hts _ (nw_mc 173 rfl)) (fun _ h9 => h9) rfl d_Mod_order_33 ?_
    refine lv_iload hx hb d_Mod_order_36 (lv_at hl 0 rfl) ?_
    refine nw_bald hx hb hK hP 1 0 rfl rfl (k := k) (by omega) (by first | decide | omega) d_Mod_order_38 ?_
    by_cases hq : X ((i * 60) + k) = I k
    · refine lv_icmp_eq hx hb d_Mod_order_39 (tgt := 63) (by decide) (fun _ => ?_) (fun hc2 => absurd (congrArg nI hq) hc2)
      refine lv_iinc (v := nI (k + 1)) hx hb d_Mod_order_63 hl (k := 0) rfl (nI_add k 1) (by decide) rfl (fun ls hl => ?_)
      have hl : lv_has ls 5 [(4, .int (nI (k + 1))), (3, .int (nI (min (Ln i) n))), (0, .ref hM), (1, .int (nI i)), (2, .int (nI n))] := hl
      refine lv_goto hx hb d_Mod_order_66 (tgt := 14) (by decide) ?_
      exact ih (k + 1) (⟨by omega, by rw [he, nw_cmp_step (by omega) hq]⟩) (show min (Ln i) n - (k + 1) < min (Ln i) n - k by omega) _ hl
    · refine lv_icmp_eq hx hb d_Mod_order_39 (tgt := 63) (by decide) (fun hc2 => ?_) (fun _ => ?_)
      · exact absurd ((nI_eq (nw_big (hX _)) (nw_big (hI0 _))).mp hc2) hq
      refine lv_aload_n hx hb d_Mod_order_42 rfl (lv_at hl 2 rfl) ?_
      refine va_get (D := (dC, dI)) (ci := 1) (v := .ref aw) (C := R_Mod) (T := F_Mod) (N := 16) hx hb hts hin_Mod hown hK hP 0 rfl rfl 1 (by decide) (hts _ (nw_mc 175 rfl)) (fun _ h9 => h9) rfl d_Mod_order_43 ?_
      refine lv_iload_n hx hb d_Mod_order_46 rfl (lv_at hl 3 rfl) ?_
      refine lv_bipush (v := nI 60) hx hb d_Mod_order_47 (by decide) ?_
      refine lv_imul hx hb d_Mod_order_49 ?_
      refine nw_ti (pk_mul i 60) ?_
      refine lv_iload hx hb d_Mod_order_50 (lv_at hl 0 rfl) ?_
      refine lv_iadd hx hb d_Mod_order_52 ?_
      refine nw_ti (nI_add (i * 60) k) ?_
      refine nw_bald hx hb hK hP 2 0 rfl rfl (k := ((i * 60) + k)) (by omega) (by first | decide | omega) d_Mod_order_53 ?_
      refine lv_aload_n hx hb d_Mod_order_54 rfl (lv_at hl 2 rfl) ?_
      refine va_get (D := (dC, dI)) (ci := 1) (v := .ref ai) (C := R_Mod) (T := F_Mod) (N := 16) hx hb hts hin_Mod hown hK hP 0 rfl rfl 0 (by decide) (hts _ (nw_mc 173 rfl)) (fun _ h9 => h9) rfl d_Mod_order_55 ?_
      refine lv_iload hx hb d_Mod_order_58 (lv_at hl 0 rfl) ?_
      refine nw_bald hx hb hK hP 1 0 rfl rfl (k := k) (by omega) (by first | decide | omega) d_Mod_order_60 ?_
      refine lv_isub hx hb d_Mod_order_61 ?_
      exact W.iret (v := (nI (X ((i * 60) + k))) - (nI (I k))) hx hb hr (fun t ht hW => ⟨_, rfl, by rw [he, nw_cmp_stop (by omega) hq], ht⟩) (fun q hq => by cases hq) d_Mod_order_62

set_option maxHeartbeats 4000000 in
set_option maxRecDepth 100000 in
theorem c_Mod_standing (l : Launch) (dC : Nat → ClassId) (dI : Nat → Nat → Nat) (cB cI : ClassId) (hM ai aw ar al aL aD ac af ap an ax isz wn chn rn th : Nat) (I X Ln : Nat → Nat) (n : Nat) (hw : wn ≤ 1000) (hn : n ≤ 60) (hL : ∀ i, i < wn → Ln i ≤ 60) (hX : ∀ j, X j < 128) (hI0 : ∀ j, I j < 128) : Met l y_Mod_standing w_Mod_standing ({ frames := 2, cells := 0, slots := 0, locals := 45 }) (nw_Pr [.ref hM, .int (nI n)] (dC, dI) nw_cls [(cB, .byte), (cI, .int)] [(hM, .inr (1, [.ref ai, .ref aw, .ref ar, .ref al, .ref aL, .ref aD, .ref ac, .ref af, .ref ap, .ref an, .ref ax, .int (nI isz), .int (nI wn), .int (nI chn), .int (nI rn), .int (nI th)])), (ai, nw_ai cB 60 I), (aw, nw_ai cB 60000 X), (al, nw_ai cI 1000 Ln)]) (vp_Si (fun r => r = nI (nw_cnt (fun i => nw_cm (fun k => X (i * 60 + k)) (Ln i) I n < 0) wn))) 0 0 (fun _ => False) := by
  refine Met.ofW (cc := b_Mod_standing) (maxL := 4) (ret := (some .int)) (by decide) rfl ?_
  intro p e s m args below meth cd s₁ B hml hv0
  obtain ⟨rfl, hP, hK⟩ := hv0
  have hx := B.exec
  have hb := B.bytes
  have hr := B.returns
  have hts := atoms_spec (ws := w_Mod_standing) B.pre
  have hown : s.vm.findClass R_Mod = some m.cls := findClass_of_methodNamed B.named
  have hlocks := B.notSynchronized
  have hl := lv_entry ([.ref hM, .int (nI n)]) (n := 4) (Nat.le_of_ble_eq_true rfl)
  rw [lg_entry_eq]
  generalize (lg_sl ([.ref hM, .int (nI n)]) ++ List.replicate (4 - (lg_sl ([.ref hM, .int (nI n)])).length) Slot.unset).toArray = ls at hl ⊢
  have hl : lv_has ls 4 [(0, .ref hM), (1, .int (nI n))] := hl
  refine lv_iconst (v := nI 0) hx hb d_Mod_standing_0 (by decide) ?_
  refine lv_istore_n hx hb d_Mod_standing_1 rfl hl (by decide) rfl (fun ls hl => ?_)
  replace hl : lv_has ls 4 [(2, .int (nI 0)), (0, .ref hM), (1, .int (nI n))] := hl
  refine lv_iconst (v := nI 0) hx hb d_Mod_standing_2 (by decide) ?_
  refine lv_istore_n hx hb d_Mod_standing_3 rfl hl (by decide) rfl (fun ls hl => ?_)
  replace hl : lv_has ls 4 [(3, .int (nI 0)), (2, .int (nI 0)), (0, .ref hM), (1, .int (nI n))] := hl
  refine nw_loopR (σ := Nat) (fun k => k ≤ wn) (fun k => [(3, .int (nI k)), (2, .int (nI (nw_cnt (fun i => nw_cm (fun k => X (i * 60 + k)) (Ln i) I n < 0) k))), (0, .ref hM), (1, .int (nI n))]) (fun k => wn - k) (fun x hI ih ls hl => ?_) 0 (Nat.zero_le _) hl
  obtain ⟨k, hx9⟩ : ∃ z, z = x := ⟨x, rfl⟩
  subst hx9
  replace hI : k ≤ wn := hI
  replace hl : lv_has ls 4 [(3, .int (nI k)), (2, .int (nI (nw_cnt (fun i => nw_cm (fun k => X (i * 60 + k)) (Ln i) I n < 0) k))), (0, .ref hM), (1, .int (nI n))] := hl
  have hb1 := nw_cnt_le (fun i => nw_cm (fun k => X (i * 60 + k)) (Ln i) I n < 0) k
  refine lv_iload_n hx hb d_Mod_standing_4 rfl (lv_at hl 0 rfl) ?_
  refine lv_aload_n hx hb d_Mod_standing_5 rfl (lv_at hl 2 rfl) ?_
  refine va_get (D := (dC, dI)) (ci := 1) (v := .int (nI wn)) (C := R_Mod) (T := F_Mod) (N := 16) hx hb hts hin_Mod hown hK hP 0 rfl rfl 12 (by decide) (hts _ (nw_mc 193 rfl)) (fun _ h9 => h9) rfl d_Mod_standing_6 ?_
  refine lv_icmp_ge hx hb d_Mod_standing_9 (tgt := 30) (by decide) (fun hc1 => ?_) (fun hc1 => ?_)
  · rw [nI_leI (by omega) (by omega)] at hc1
    refine lv_iload_n hx hb d_Mod_standing_30 rfl (lv_at hl 1 rfl) ?_
    exact W.iret (v := nI (nw_cnt (fun i => nw_cm (fun k => X (i * 60 + k)) (Ln i) I n < 0) k)) hx hb hr (fun t ht hW => ⟨_, rfl, by rw [show k = wn by omega], ht⟩) (fun q hq => by cases hq) d_Mod_standing_31
  · rw [nI_leI (by omega) (by omega)] at hc1
    refine lv_aload_n hx hb d_Mod_standing_12 rfl (lv_at hl 2 rfl) ?_
    refine lv_iload_n hx hb d_Mod_standing_13 rfl (lv_at hl 0 rfl) ?_
    refine lv_iload_n hx hb d_Mod_standing_14 rfl (lv_at hl 3 rfl) ?_
    refine vp_callSi (va_Run.run (va_runV (As := [.int (nI k), .int (nI n)]) (rest := []) ⟨hx, hb, hml, hown, hts⟩ (c_Mod_order l dC dI cB cI hM ai aw ar al aL aD ac af ap an ax isz wn chn rn th I X Ln k n (by omega) (by omega) (hL k (by omega)) hX hI0) (cwV (C := R_Mod) 2 hts (nw_GV (nw_m 194 rfl) (nw_m 195 rfl) (nw_m 196 rfl) (nw_m 191 rfl) (nw_m 197 rfl)) rfl rfl rfl (by decide +kernel) ⟨Nat.le_of_ble_eq_true rfl, Nat.le_of_ble_eq_true rfl⟩) (nw_preV (q0 := 0) (ci := 1) (q := (R_Mod, F_Mod, 16)) hK hP [0, 1, 2, 3] [0, 1] rfl rfl rfl rfl) rfl rfl hl.1 rfl (lv_room (Nat.le_of_ble_eq_true rfl)) d_Mod_standing_15 ⟨Nat.le_of_ble_eq_true rfl, Nat.le_of_ble_eq_true rfl⟩)) (fun r her => ?_)
    subst her
    refine lv_if_ge hx hb d_Mod_standing_18 (tgt := 24) (by decide) (fun hc2 => ?_) (fun hc2 => ?_)
    · have hk1 : nw_cnt (fun i => nw_cm (fun k => X (i * 60 + k)) (Ln i) I n < 0) (k + 1) = nw_cnt (fun i => nw_cm (fun k => X (i * 60 + k)) (Ln i) I n < 0) k := by
        show _ + (if _ then 1 else 0) = _
        rw [if_neg (Int32.not_lt.mpr hc2)]; rfl
      rw [← hk1] at hl
      refine lv_iinc (v := nI (k + 1)) hx hb d_Mod_standing_24 hl (k := 0) rfl (nI_add k 1) (by decide) rfl (fun ls hl => ?_)
      have hl : lv_has ls 4 [(3, .int (nI (k + 1))), (2, .int (nI (nw_cnt (fun i => nw_cm (fun k => X (i * 60 + k)) (Ln i) I n < 0) (k + 1)))), (0, .ref hM), (1, .int (nI n))] := hl
      refine lv_goto hx hb d_Mod_standing_27 (tgt := 4) (by decide) ?_
      exact ih (k + 1) (by omega) (show wn - (k + 1) < wn - k by omega) _ hl
    · have hk1 : nw_cnt (fun i => nw_cm (fun k => X (i * 60 + k)) (Ln i) I n < 0) (k + 1) = nw_cnt (fun i => nw_cm (fun k => X (i * 60 + k)) (Ln i) I n < 0) k + 1 := by
        show _ + (if _ then 1 else 0) = _
        rw [if_pos (Int32.not_le.mp hc2)]
      refine lv_iinc (v := nI ((nw_cnt (fun i => nw_cm (fun k => X (i * 60 + k)) (Ln i) I n < 0) k) + 1)) hx hb d_Mod_standing_21 hl (k := 1) rfl (nI_add (nw_cnt (fun i => nw_cm (fun k => X (i * 60 + k)) (Ln i) I n < 0) k) 1) (by decide) rfl (fun ls hl => ?_)
      have hl : lv_has ls 4 [(2, .int (nI ((nw_cnt (fun i => nw_cm (fun k => X (i * 60 + k)) (Ln i) I n < 0) k) + 1))), (3, .int (nI k)), (0, .ref hM), (1, .int (nI n))] := hl
      rw [← hk1] at hl
      have hl : lv_has ls 4 [(2, .int (nI (nw_cnt (fun i => nw_cm (fun k => X (i * 60 + k)) (Ln i) I n < 0) (k + 1)))), (3, .int (nI k)), (0, .ref hM), (1, .int (nI n))] := hl
      refine lv_iinc (v := nI (k + 1)) hx hb d_Mod_standing_24 hl (k := 1) rfl (nI_add k 1) (by decide) rfl (fun ls hl => ?_)
      have hl : lv_has ls 4 [(3, .int (nI (k + 1))), (2, .int (nI (nw_cnt (fun i => nw_cm (fun k => X (i * 60 + k)) (Ln i) I n < 0) (k + 1)))), (0, .ref hM), (1, .int (nI n))] := hl
      refine lv_goto hx hb d_Mod_standing_27 (tgt := 4) (by decide) ?_
      exact ih (k + 1) (by omega) (show wn - (k + 1) < wn - k by omega) _ hl

set_option maxHeartbeats 4000000 in
set_option maxRecDepth 100000 in
theorem c_Mod_before (l : Launch) (dC : Nat → ClassId) (dI : Nat → Nat → Nat) (sz : Nat) (cB cI : ClassId) (hM ai aw ar al aL aD ac af ap an ax isz wn chn rn th : Nat) (I X Ln : Nat → Nat) (hw : wn ≤ 1000) (hn : isz ≤ 60) (hL : ∀ i, i < wn → Ln i ≤ 60) (hX : ∀ j, X j < 128) (hI0 : ∀ j, I j < 128) : Met l y_Mod_before w_Mod_before ({ frames := 3, cells := 0, slots := 0, locals := 68 }) (nw_Pw [.ref hM] (dC, dI) nw_cls [(cB, .byte), (cI, .int)] [(hM, .inr (1, [.ref ai, .ref aw, .ref ar, .ref al, .ref aL, .ref aD, .ref ac, .ref af, .ref ap, .ref an, .ref ax, .int (nI isz), .int (nI wn), .int (nI chn), .int (nI rn), .int (nI th)])), (ai, nw_ai cB 60 I), (aw, nw_ai cB 60000 X), (al, nw_ai cI 1000 Ln)] sz) (va_Qi (fun (r : Int32) (_ : Unit) => r = nI (nw_cnt (fun i => nw_cm (fun k => X (i * 60 + k)) (Ln i) I isz < 0) wn)) (nw_B (dC, dI) nw_cls (va_A [(hM, .inr (1, [.ref ai, .ref aw, .ref ar, .ref al, .ref aL, .ref aD, .ref ac, .ref af, .ref ap, .ref an, .ref ax, .int (nI isz), .int (nI wn), .int (nI chn), .int (nI rn), .int (nI th)])), (ai, nw_ai cB 60 I), (aw, nw_ai cB 60000 X), (al, nw_ai cI 1000 Ln)] sz) (fun _ : Unit => [(hM, .inr (1, [.ref ai, .ref aw, .ref ar, .ref al, .ref aL, .ref aD, .ref ac, .ref af, .ref ap, .ref an, .ref ax, .int (nI 0), .int (nI wn), .int (nI chn), .int (nI rn), .int (nI 0)])), (ai, nw_ai cB 60 I), (aw, nw_ai cB 60000 X), (al, nw_ai cI 1000 Ln)])) (va_A [(hM, .inr (1, [.ref ai, .ref aw, .ref ar, .ref al, .ref aL, .ref aD, .ref ac, .ref af, .ref ap, .ref an, .ref ax, .int (nI isz), .int (nI wn), .int (nI chn), .int (nI rn), .int (nI th)])), (ai, nw_ai cB 60 I), (aw, nw_ai cB 60000 X), (al, nw_ai cI 1000 Ln)] sz)) 0 0 (va_A [(hM, .inr (1, [.ref ai, .ref aw, .ref ar, .ref al, .ref aL, .ref aD, .ref ac, .ref af, .ref ap, .ref an, .ref ax, .int (nI isz), .int (nI wn), .int (nI chn), .int (nI rn), .int (nI th)])), (ai, nw_ai cB 60 I), (aw, nw_ai cB 60000 X), (al, nw_ai cI 1000 Ln)] sz) := by
  refine Met.ofW (cc := b_Mod_before) (maxL := 1) (ret := (some .int)) (by decide) rfl ?_
  intro p e s m args below meth cd s₁ B hml hv0
  obtain ⟨rfl, hsz, hP, hK, hD0⟩ := hv0
  have hx := B.exec
  have hb := B.bytes
  have hr := B.returns
  have hts := atoms_spec (ws := w_Mod_before) B.pre
  have hown : s.vm.findClass R_Mod = some m.cls := findClass_of_methodNamed B.named
  have hlocks := B.notSynchronized
  subst hsz
  have hD := hD0.self (sz := s.heap.size)
  generalize hAe : va_A [(hM, .inr (1, [.ref ai, .ref aw, .ref ar, .ref al, .ref aL, .ref aD, .ref ac, .ref af, .ref ap, .ref an, .ref ax, .int (nI isz), .int (nI wn), .int (nI chn), .int (nI rn), .int (nI th)])), (ai, nw_ai cB 60 I), (aw, nw_ai cB 60000 X), (al, nw_ai cI 1000 Ln)] s.heap.size = A at hD ⊢
  have hA : ∀ q : Nat, s.heap.size ≤ q → A q := fun q h => by rw [← hAe]; exact Or.inr h
  have hS : va_S A s.heap s.heap [] := va_S.rf
  have hl := lv_entry ([.ref hM]) (n := 1) (Nat.le_of_ble_eq_true rfl)
  rw [lg_entry_eq]
  generalize (lg_sl ([.ref hM]) ++ List.replicate (1 - (lg_sl ([.ref hM])).length) Slot.unset).toArray = ls at hl ⊢
  have hl : lv_has ls 1 [(0, .ref hM)] := hl
  refine lv_aload_n hx hb d_Mod_before_0 rfl (lv_at hl 0 rfl) ?_
  refine lv_iconst (v := nI 0) hx hb d_Mod_before_1 (by decide) ?_
  refine va_put (D := (dC, dI)) (ci := 1) (v := .int (nI 0)) (ty := .int) (C := R_Mod) (T := F_Mod) (N := 16) hx hb hts hin_Mod t_Mod t_Mod_ok n_Mod hown hK hP hD hS 0 rfl rfl 15 (by decide) (hts _ (nw_mc 187 rfl)) (fun _ h9 => h9) rfl (by decide +kernel) rfl rfl (Nat.le_of_ble_eq_true rfl) d_Mod_before_2 (fun H locs hP hD hS => ?_)
  replace hP : va_P (dC, dI) nw_cls [(hM, .inr (1, [.ref ai, .ref aw, .ref ar, .ref al, .ref aL, .ref aD, .ref ac, .ref af, .ref ap, .ref an, .ref ax, .int (nI isz), .int (nI wn), .int (nI chn), .int (nI rn), .int (nI 0)])), (ai, nw_ai cB 60 I), (aw, nw_ai cB 60000 X), (al, nw_ai cI 1000 Ln)] H := hP
  replace hD : va_D A [(hM, .inr (1, [.ref ai, .ref aw, .ref ar, .ref al, .ref aL, .ref aD, .ref ac, .ref af, .ref ap, .ref an, .ref ax, .int (nI isz), .int (nI wn), .int (nI chn), .int (nI rn), .int (nI 0)])), (ai, nw_ai cB 60 I), (aw, nw_ai cB 60000 X), (al, nw_ai cI 1000 Ln)] := hD
  refine lv_aload_n hx hb d_Mod_before_5 rfl (lv_at hl 0 rfl) ?_
  refine lv_aload_n hx hb d_Mod_before_6 rfl (lv_at hl 0 rfl) ?_
  refine nw_calli (wc := [(hM, .inr (1, [.ref ai, .ref aw, .ref ar, .ref al, .ref aL, .ref aD, .ref ac, .ref af, .ref ap, .ref an, .ref ax, .int (nI isz), .int (nI wn), .int (nI chn), .int (nI rn), .int (nI 0)]))]) (wr := [(ai, nw_ai cB 60 I), (aw, nw_ai cB 60000 X), (al, nw_ai cI 1000 Ln)]) hP hD hS hA [0] [1, 2, 3] rfl rfl (by decide) (by decide) (va_runV (As := []) (rest := [.ref hM]) ⟨hx, hb, hml, hown, hts⟩ (c_Mod_take l dC dI _ hM ai aw ar al aL aD ac af ap an ax isz wn chn rn 0) (cwV (C := R_Mod) 0 hts (nw_GV (nw_m 198 rfl) (nw_m 199 rfl) (nw_m 200 rfl) (nw_m 191 rfl) (nw_m 201 rfl)) rfl rfl rfl (by decide +kernel) ⟨Nat.le_of_ble_eq_true rfl, Nat.le_of_ble_eq_true rfl⟩) (nw_prewV (q0 := 0) (ci := 1) (q := (R_Mod, F_Mod, 16)) hK hP hD [0] [] (by decide) rfl rfl rfl rfl) rfl rfl hl.1 rfl (lv_room (Nat.le_of_ble_eq_true rfl)) d_Mod_before_7 ⟨Nat.le_of_ble_eq_true rfl, Nat.le_of_ble_eq_true rfl⟩) (fun r _ H locs hw hP hD hS => ?_)
  replace hP : va_P (dC, dI) nw_cls [(ai, nw_ai cB 60 I), (aw, nw_ai cB 60000 X), (al, nw_ai cI 1000 Ln), (hM, .inr (1, [.ref ai, .ref aw, .ref ar, .ref al, .ref aL, .ref aD, .ref ac, .ref af, .ref ap, .ref an, .ref ax, .int (nI 0), .int (nI wn), .int (nI chn), .int (nI rn), .int (nI 0)]))] H := hP
  replace hD : va_D A [(ai, nw_ai cB 60 I), (aw, nw_ai cB 60000 X), (al, nw_ai cI 1000 Ln), (hM, .inr (1, [.ref ai, .ref aw, .ref ar, .ref al, .ref aL, .ref aD, .ref ac, .ref af, .ref ap, .ref an, .ref ax, .int (nI 0), .int (nI wn), .int (nI chn), .int (nI rn), .int (nI 0)]))] := hD
  obtain rfl : r = nI isz := hw
  refine vp_callSi (va_Run.run (va_runV (As := [.int (nI isz)]) (rest := []) ⟨hx, hb, hml, hown, hts⟩ (c_Mod_standing l dC dI cB cI hM ai aw ar al aL aD ac af ap an ax 0 wn chn rn 0 I X Ln isz (by omega) (by omega) hL hX hI0) (cwV (C := R_Mod) 1 hts (nw_GV (nw_m 202 rfl) (nw_m 203 rfl) (nw_m 204 rfl) (nw_m 191 rfl) (nw_m 205 rfl)) rfl rfl rfl (by decide +kernel) ⟨Nat.le_of_ble_eq_true rfl, Nat.le_of_ble_eq_true rfl⟩) (nw_preV (q0 := 3) (ci := 1) (q := (R_Mod, F_Mod, 16)) hK hP [3, 0, 1, 2] [0, 1] rfl rfl rfl rfl) rfl rfl hl.1 rfl (lv_room (Nat.le_of_ble_eq_true rfl)) d_Mod_before_10 ⟨Nat.le_of_ble_eq_true rfl, Nat.le_of_ble_eq_true rfl⟩)) (fun r her => ?_)
  subst her
  have hP := hP.sub (ws' := [(hM, .inr (1, [.ref ai, .ref aw, .ref ar, .ref al, .ref aL, .ref aD, .ref ac, .ref af, .ref ap, .ref an, .ref ax, .int (nI 0), .int (nI wn), .int (nI chn), .int (nI rn), .int (nI 0)])), (ai, nw_ai cB 60 I), (aw, nw_ai cB 60000 X), (al, nw_ai cI 1000 Ln)]) [3, 0, 1, 2] rfl
  have hD := hD.sub (ws' := [(hM, .inr (1, [.ref ai, .ref aw, .ref ar, .ref al, .ref aL, .ref aD, .ref ac, .ref af, .ref ap, .ref an, .ref ax, .int (nI 0), .int (nI wn), .int (nI chn), .int (nI rn), .int (nI 0)])), (ai, nw_ai cB 60 I), (aw, nw_ai cB 60000 X), (al, nw_ai cI 1000 Ln)]) [3, 0, 1, 2] (by decide) rfl
  exact W.iret (v := nI (nw_cnt (fun i => nw_cm (fun k => X (i * 60 + k)) (Ln i) I isz < 0) wn)) hx hb hr (fun t ht hW => ⟨⟨_, (), rfl, rfl, by rw [ht]; exact hP, hD⟩, hS.F ht⟩) hS.2.2 d_Mod_before_13

set_option maxHeartbeats 4000000 in
set_option maxRecDepth 100000 in
theorem c_Mod_count (l : Launch) (dC : Nat → ClassId) (dI : Nat → Nat → Nat) (sz : Nat) (cI : ClassId) (hM ai aw ar al aL aD ac af ap an ax isz wn chn rn th : Nat) (Ln : Nat → Nat) (q : Int32) (hw : wn ≤ 1000) (hL : ∀ i, i < wn → Ln i ≤ 60) : Met l y_Mod_count w_Mod_count ({ frames := 0, cells := 0, slots := 0, locals := 0 }) (nw_Pw [.ref hM, .int q] (dC, dI) nw_cls [(cI, .int)] [(hM, .inr (1, [.ref ai, .ref aw, .ref ar, .ref al, .ref aL, .ref aD, .ref ac, .ref af, .ref ap, .ref an, .ref ax, .int (nI isz), .int (nI wn), .int (nI chn), .int (nI rn), .int (nI th)])), (al, nw_ai cI 1000 Ln)] sz) (va_Qi (fun (r : Int32) (_ : Unit) => r = nw_sw q isz wn chn rn (nw_mx Ln wn)) (nw_B (dC, dI) nw_cls (va_A [(hM, .inr (1, [.ref ai, .ref aw, .ref ar, .ref al, .ref aL, .ref aD, .ref ac, .ref af, .ref ap, .ref an, .ref ax, .int (nI isz), .int (nI wn), .int (nI chn), .int (nI rn), .int (nI th)])), (al, nw_ai cI 1000 Ln)] sz) (fun _ : Unit => [(hM, .inr (1, [.ref ai, .ref aw, .ref ar, .ref al, .ref aL, .ref aD, .ref ac, .ref af, .ref ap, .ref an, .ref ax, .int (nI isz), .int (nI wn), .int (nI chn), .int (nI rn), .int (nI 0)])), (al, nw_ai cI 1000 Ln)])) (va_A [(hM, .inr (1, [.ref ai, .ref aw, .ref ar, .ref al, .ref aL, .ref aD, .ref ac, .ref af, .ref ap, .ref an, .ref ax, .int (nI isz), .int (nI wn), .int (nI chn), .int (nI rn), .int (nI th)])), (al, nw_ai cI 1000 Ln)] sz)) 0 0 (va_A [(hM, .inr (1, [.ref ai, .ref aw, .ref ar, .ref al, .ref aL, .ref aD, .ref ac, .ref af, .ref ap, .ref an, .ref ax, .int (nI isz), .int (nI wn), .int (nI chn), .int (nI rn), .int (nI th)])), (al, nw_ai cI 1000 Ln)] sz) := by
  refine Met.ofW (cc := b_Mod_count) (maxL := 4) (ret := (some .int)) (by decide) rfl ?_
  intro p e s m args below meth cd s₁ B hml hv0
  obtain ⟨rfl, hsz, hP, hK, hD0⟩ := hv0
  have hx := B.exec
  have hb := B.bytes
  have hr := B.returns
  have hts := atoms_spec (ws := w_Mod_count) B.pre
  have hown : s.vm.findClass R_Mod = some m.cls := findClass_of_methodNamed B.named
  have hlocks := B.notSynchronized
  subst hsz
  have hD := hD0.self (sz := s.heap.size)
  generalize hAe : va_A [(hM, .inr (1, [.ref ai, .ref aw, .ref ar, .ref al, .ref aL, .ref aD, .ref ac, .ref af, .ref ap, .ref an, .ref ax, .int (nI isz), .int (nI wn), .int (nI chn), .int (nI rn), .int (nI th)])), (al, nw_ai cI 1000 Ln)] s.heap.size = A at hD ⊢
  have hA : ∀ q : Nat, s.heap.size ≤ q → A q := fun q h => by rw [← hAe]; exact Or.inr h
  have hS : va_S A s.heap s.heap [] := va_S.rf
  have hl := lv_entry ([.ref hM, .int q]) (n := 4) (Nat.le_of_ble_eq_true rfl)
  rw [lg_entry_eq]
  generalize (lg_sl ([.ref hM, .int q]) ++ List.replicate (4 - (lg_sl ([.ref hM, .int q])).length) Slot.unset).toArray = ls at hl ⊢
  have hl : lv_has ls 4 [(0, .ref hM), (1, .int q)] := hl
  refine lv_aload_n hx hb d_Mod_count_0 rfl (lv_at hl 0 rfl) ?_
  refine lv_iconst (v := nI 0) hx hb d_Mod_count_1 (by decide) ?_
  refine va_put (D := (dC, dI)) (ci := 1) (v := .int (nI 0)) (ty := .int) (C := R_Mod) (T := F_Mod) (N := 16) hx hb hts hin_Mod t_Mod t_Mod_ok n_Mod hown hK hP hD hS 0 rfl rfl 15 (by decide) (hts _ (nw_mc 187 rfl)) (fun _ h9 => h9) rfl (by decide +kernel) rfl rfl (Nat.le_of_ble_eq_true rfl) d_Mod_count_2 (fun H locs hP hD hS => ?_)
  replace hP : va_P (dC, dI) nw_cls [(hM, .inr (1, [.ref ai, .ref aw, .ref ar, .ref al, .ref aL, .ref aD, .ref ac, .ref af, .ref ap, .ref an, .ref ax, .int (nI isz), .int (nI wn), .int (nI chn), .int (nI rn), .int (nI 0)])), (al, nw_ai cI 1000 Ln)] H := hP
  replace hD : va_D A [(hM, .inr (1, [.ref ai, .ref aw, .ref ar, .ref al, .ref aL, .ref aD, .ref ac, .ref af, .ref ap, .ref an, .ref ax, .int (nI isz), .int (nI wn), .int (nI chn), .int (nI rn), .int (nI 0)])), (al, nw_ai cI 1000 Ln)] := hD
  refine lv_iconst (v := nI 0) hx hb d_Mod_count_5 (by decide) ?_
  refine lv_istore_n hx hb d_Mod_count_6 rfl hl (by decide) rfl (fun ls hl => ?_)
  replace hl : lv_has ls 4 [(2, .int (nI 0)), (0, .ref hM), (1, .int q)] := hl
  refine lv_iconst (v := nI 0) hx hb d_Mod_count_7 (by decide) ?_
  refine lv_istore_n hx hb d_Mod_count_8 rfl hl (by decide) rfl (fun ls hl => ?_)
  replace hl : lv_has ls 4 [(3, .int (nI 0)), (2, .int (nI 0)), (0, .ref hM), (1, .int q)] := hl
  refine nw_loopW (σ := Nat) (fun k => k ≤ wn) (fun k => [(3, .int (nI k)), (2, .int (nI (nw_mx Ln k))), (0, .ref hM), (1, .int q)]) (fun k => [(hM, .inr (1, [.ref ai, .ref aw, .ref ar, .ref al, .ref aL, .ref aD, .ref ac, .ref af, .ref ap, .ref an, .ref ax, .int (nI isz), .int (nI wn), .int (nI chn), .int (nI rn), .int (nI 0)])), (al, nw_ai cI 1000 Ln)]) (fun k => wn - k) (fun x hI ih ls H locs hl hP hD hS => ?_) 0 (Nat.zero_le _) hl hP hD hS
  obtain ⟨k, hx9⟩ : ∃ z, z = x := ⟨x, rfl⟩
  subst hx9
  replace hI : k ≤ wn := hI
  replace hl : lv_has ls 4 [(3, .int (nI k)), (2, .int (nI (nw_mx Ln k))), (0, .ref hM), (1, .int q)] := hl
  replace hP : va_P (dC, dI) nw_cls [(hM, .inr (1, [.ref ai, .ref aw, .ref ar, .ref al, .ref aL, .ref aD, .ref ac, .ref af, .ref ap, .ref an, .ref ax, .int (nI isz), .int (nI wn), .int (nI chn), .int (nI rn), .int (nI 0)])), (al, nw_ai cI 1000 Ln)] H := hP
  replace hD : va_D A [(hM, .inr (1, [.ref ai, .ref aw, .ref ar, .ref al, .ref aL, .ref aD, .ref ac, .ref af, .ref ap, .ref an, .ref ax, .int (nI isz), .int (nI wn), .int (nI chn), .int (nI rn), .int (nI 0)])), (al, nw_ai cI 1000 Ln)] := hD
  have hb1 := nw_mx_lt (f := Ln) (n := k) (b := 61) (by decide) (fun i hi => by have := hL i (by omega); omega)
  refine lv_iload_n hx hb d_Mod_count_9 rfl (lv_at hl 0 rfl) ?_
  refine lv_aload_n hx hb d_Mod_count_10 rfl (lv_at hl 2 rfl) ?_
  refine va_get (D := (dC, dI)) (ci := 1) (v := .int (nI wn)) (C := R_Mod) (T := F_Mod) (N := 16) hx hb hts hin_Mod hown hK hP 0 rfl rfl 12 (by decide) (hts _ (nw_mc 193 rfl)) (fun _ h9 => h9) rfl d_Mod_count_11 ?_
  refine lv_icmp_ge hx hb d_Mod_count_14 (tgt := 44) (by decide) (fun hc1 => ?_) (fun hc1 => ?_)
  · rw [nI_leI (by omega) (by omega)] at hc1
    have hkw : k = wn := by omega
    refine lv_iload_n hx hb d_Mod_count_44 rfl (lv_at hl 3 rfl) ?_
    by_cases hs0 : (q).toInt = 0
    · refine lv_tableIn hx hb d_Mod_count_45 (off := 35) (tgt := 80) (by omega) (by omega) (by rw [hs0]; rfl) (by decide) ?_
      refine lv_aload_n hx hb d_Mod_count_80 rfl (lv_at hl 2 rfl) ?_
      refine va_get (D := (dC, dI)) (ci := 1) (v := .int (nI isz)) (C := R_Mod) (T := F_Mod) (N := 16) hx hb hts hin_Mod hown hK hP 0 rfl rfl 11 (by decide) (hts _ (nw_mc 188 rfl)) (fun _ h9 => h9) rfl d_Mod_count_81 ?_
      exact W.iret (v := nI isz) hx hb hr (fun t ht hW => ⟨⟨_, (), rfl, by unfold nw_sw; rw [if_pos hs0], by rw [ht]; exact hP, hD⟩, hS.F ht⟩) hS.2.2 d_Mod_count_84
    · by_cases hs1 : (q).toInt = 1
      · refine lv_tableIn hx hb d_Mod_count_45 (off := 40) (tgt := 85) (by omega) (by omega) (by rw [hs1]; rfl) (by decide) ?_
        refine lv_aload_n hx hb d_Mod_count_85 rfl (lv_at hl 2 rfl) ?_
        refine va_get (D := (dC, dI)) (ci := 1) (v := .int (nI wn)) (C := R_Mod) (T := F_Mod) (N := 16) hx hb hts hin_Mod hown hK hP 0 rfl rfl 12 (by decide) (hts _ (nw_mc 193 rfl)) (fun _ h9 => h9) rfl d_Mod_count_86 ?_
        exact W.iret (v := nI wn) hx hb hr (fun t ht hW => ⟨⟨_, (), rfl, by unfold nw_sw; rw [if_neg hs0, if_pos hs1], by rw [ht]; exact hP, hD⟩, hS.F ht⟩) hS.2.2 d_Mod_count_89
      · by_cases hs2 : (q).toInt = 2
        · refine lv_tableIn hx hb d_Mod_count_45 (off := 45) (tgt := 90) (by omega) (by omega) (by rw [hs2]; rfl) (by decide) ?_
          refine lv_aload_n hx hb d_Mod_count_90 rfl (lv_at hl 2 rfl) ?_
          refine va_get (D := (dC, dI)) (ci := 1) (v := .int (nI chn)) (C := R_Mod) (T := F_Mod) (N := 16) hx hb hts hin_Mod hown hK hP 0 rfl rfl 13 (by decide) (hts _ (nw_mc 206 rfl)) (fun _ h9 => h9) rfl d_Mod_count_91 ?_
          exact W.iret (v := nI chn) hx hb hr (fun t ht hW => ⟨⟨_, (), rfl, by unfold nw_sw; rw [if_neg hs0, if_neg hs1, if_pos hs2], by rw [ht]; exact hP, hD⟩, hS.F ht⟩) hS.2.2 d_Mod_count_94
        · by_cases hs3 : (q).toInt = 3
          · refine lv_tableIn hx hb d_Mod_count_45 (off := 50) (tgt := 95) (by omega) (by omega) (by rw [hs3]; rfl) (by decide) ?_
            refine lv_aload_n hx hb d_Mod_count_95 rfl (lv_at hl 2 rfl) ?_
            refine va_get (D := (dC, dI)) (ci := 1) (v := .int (nI rn)) (C := R_Mod) (T := F_Mod) (N := 16) hx hb hts hin_Mod hown hK hP 0 rfl rfl 14 (by decide) (hts _ (nw_mc 215 rfl)) (fun _ h9 => h9) rfl d_Mod_count_96 ?_
            exact W.iret (v := nI rn) hx hb hr (fun t ht hW => ⟨⟨_, (), rfl, by unfold nw_sw; rw [if_neg hs0, if_neg hs1, if_neg hs2, if_pos hs3], by rw [ht]; exact hP, hD⟩, hS.F ht⟩) hS.2.2 d_Mod_count_99
          · by_cases hs4 : (q).toInt = 4
            · refine lv_tableIn hx hb d_Mod_count_45 (off := 55) (tgt := 100) (by omega) (by omega) (by rw [hs4]; rfl) (by decide) ?_
              refine lv_iload_n hx hb d_Mod_count_100 rfl (lv_at hl 1 rfl) ?_
              exact W.iret (v := nI (nw_mx Ln k)) hx hb hr (fun t ht hW => ⟨⟨_, (), rfl, by unfold nw_sw; rw [if_neg hs0, if_neg hs1, if_neg hs2, if_neg hs3, if_pos hs4, hkw], by rw [ht]; exact hP, hD⟩, hS.F ht⟩) hS.2.2 d_Mod_count_101
            · refine lv_tableOut hx hb d_Mod_count_45 (tgt := 102) (by omega) (by decide) ?_
              refine lv_iconst (v := (-1)) hx hb d_Mod_count_102 (by decide) ?_
              exact W.iret (v := (-1)) hx hb hr (fun t ht hW => ⟨⟨_, (), rfl, by unfold nw_sw; rw [if_neg hs0, if_neg hs1, if_neg hs2, if_neg hs3, if_neg hs4], by rw [ht]; exact hP, hD⟩, hS.F ht⟩) hS.2.2 d_Mod_count_103
  · rw [nI_leI (by omega) (by omega)] at hc1
    have hk1 := hL k (by omega)
    refine lv_aload_n hx hb d_Mod_count_17 rfl (lv_at hl 2 rfl) ?_
    refine va_get (D := (dC, dI)) (ci := 1) (v := .ref al) (C := R_Mod) (T := F_Mod) (N := 16) hx hb hts hin_Mod hown hK hP 0 rfl rfl 3 (by decide) (hts _ (nw_mc 178 rfl)) (fun _ h9 => h9) rfl d_Mod_count_18 ?_
    refine lv_iload_n hx hb d_Mod_count_21 rfl (lv_at hl 0 rfl) ?_
    refine nw_iald hx hb hK hP 1 0 rfl rfl (k := k) (by omega) (by first | decide | omega) d_Mod_count_22 ?_
    refine lv_iload_n hx hb d_Mod_count_23 rfl (lv_at hl 1 rfl) ?_
    refine lv_icmp_le hx hb d_Mod_count_24 (tgt := 36) (by decide) (fun hc2 => ?_) (fun hc2 => ?_)
    · rw [nI_leI (by omega) (by omega)] at hc2
      refine lv_iload_n hx hb d_Mod_count_36 rfl (lv_at hl 1 rfl) ?_
      refine nw_ti (y := nI (nw_mx Ln (k + 1))) (congrArg nI (show _ = max (nw_mx Ln k) (Ln k) by omega)) ?_
      refine lv_istore_n hx hb d_Mod_count_37 rfl hl (by decide) rfl (fun ls hl => ?_)
      replace hl : lv_has ls 4 [(2, .int (nI (nw_mx Ln (k + 1)))), (3, .int (nI k)), (0, .ref hM), (1, .int q)] := hl
      refine lv_iinc (v := nI (k + 1)) hx hb d_Mod_count_38 hl (k := 1) rfl (nI_add k 1) (by decide) rfl (fun ls hl => ?_)
      have hl : lv_has ls 4 [(3, .int (nI (k + 1))), (2, .int (nI (nw_mx Ln (k + 1)))), (0, .ref hM), (1, .int q)] := hl
      refine lv_goto hx hb d_Mod_count_41 (tgt := 9) (by decide) ?_
      exact ih (k + 1) (by omega) (show wn - (k + 1) < wn - k by omega) _ _ _ hl hP hD hS
    · rw [nI_leI (by omega) (by omega)] at hc2
      refine lv_aload_n hx hb d_Mod_count_27 rfl (lv_at hl 2 rfl) ?_
      refine va_get (D := (dC, dI)) (ci := 1) (v := .ref al) (C := R_Mod) (T := F_Mod) (N := 16) hx hb hts hin_Mod hown hK hP 0 rfl rfl 3 (by decide) (hts _ (nw_mc 178 rfl)) (fun _ h9 => h9) rfl d_Mod_count_28 ?_
      refine lv_iload_n hx hb d_Mod_count_31 rfl (lv_at hl 0 rfl) ?_
      refine nw_iald hx hb hK hP 1 0 rfl rfl (k := k) (by omega) (by first | decide | omega) d_Mod_count_32 ?_
      refine lv_goto hx hb d_Mod_count_33 (tgt := 37) (by decide) ?_
      refine nw_ti (y := nI (nw_mx Ln (k + 1))) (congrArg nI (show _ = max (nw_mx Ln k) (Ln k) by omega)) ?_
      refine lv_istore_n hx hb d_Mod_count_37 rfl hl (by decide) rfl (fun ls hl => ?_)
      replace hl : lv_has ls 4 [(2, .int (nI (nw_mx Ln (k + 1)))), (3, .int (nI k)), (0, .ref hM), (1, .int q)] := hl
      refine lv_iinc (v := nI (k + 1)) hx hb d_Mod_count_38 hl (k := 1) rfl (nI_add k 1) (by decide) rfl (fun ls hl => ?_)
      have hl : lv_has ls 4 [(3, .int (nI (k + 1))), (2, .int (nI (nw_mx Ln (k + 1)))), (0, .ref hM), (1, .int q)] := hl
      refine lv_goto hx hb d_Mod_count_41 (tgt := 9) (by decide) ?_
      exact ih (k + 1) (by omega) (show wn - (k + 1) < wn - k by omega) _ _ _ hl hP hD hS

set_option maxHeartbeats 4000000 in
set_option maxRecDepth 100000 in
theorem c_Mod_letter_bad (l : Launch) (dC : Nat → ClassId) (dI : Nat → Nat → Nat) (sz : Nat) (hM ai aw ar al aL aD ac af ap an ax isz wn chn rn th : Nat) (i k : Int32) (hb0 : i < 0 ∨ nI rn ≤ i ∨ k < 0) : Met l y_Mod_letter w_Mod_letter ({ frames := 0, cells := 0, slots := 0, locals := 0 }) (nw_Pw [.ref hM, .int i, .int k] (dC, dI) nw_cls [] [(hM, .inr (1, [.ref ai, .ref aw, .ref ar, .ref al, .ref aL, .ref aD, .ref ac, .ref af, .ref ap, .ref an, .ref ax, .int (nI isz), .int (nI wn), .int (nI chn), .int (nI rn), .int (nI th)]))] sz) (va_Qi (fun (r : Int32) (_ : Unit) => r = nI 0) (nw_B (dC, dI) nw_cls (va_A [(hM, .inr (1, [.ref ai, .ref aw, .ref ar, .ref al, .ref aL, .ref aD, .ref ac, .ref af, .ref ap, .ref an, .ref ax, .int (nI isz), .int (nI wn), .int (nI chn), .int (nI rn), .int (nI th)]))] sz) (fun _ : Unit => [(hM, .inr (1, [.ref ai, .ref aw, .ref ar, .ref al, .ref aL, .ref aD, .ref ac, .ref af, .ref ap, .ref an, .ref ax, .int (nI isz), .int (nI wn), .int (nI chn), .int (nI rn), .int (nI 1)]))])) (va_A [(hM, .inr (1, [.ref ai, .ref aw, .ref ar, .ref al, .ref aL, .ref aD, .ref ac, .ref af, .ref ap, .ref an, .ref ax, .int (nI isz), .int (nI wn), .int (nI chn), .int (nI rn), .int (nI th)]))] sz)) 0 0 (va_A [(hM, .inr (1, [.ref ai, .ref aw, .ref ar, .ref al, .ref aL, .ref aD, .ref ac, .ref af, .ref ap, .ref an, .ref ax, .int (nI isz), .int (nI wn), .int (nI chn), .int (nI rn), .int (nI th)]))] sz) := by
  refine Met.ofW (cc := b_Mod_letter) (maxL := 3) (ret := (some .int)) (by decide) rfl ?_
  intro p e s m args below meth cd s₁ B hml hv0
  obtain ⟨rfl, hsz, hP, hK, hD0⟩ := hv0
  have hx := B.exec
  have hb := B.bytes
  have hr := B.returns
  have hts := atoms_spec (ws := w_Mod_letter) B.pre
  have hown : s.vm.findClass R_Mod = some m.cls := findClass_of_methodNamed B.named
  have hlocks := B.notSynchronized
  subst hsz
  have hD := hD0.self (sz := s.heap.size)
  generalize hAe : va_A [(hM, .inr (1, [.ref ai, .ref aw, .ref ar, .ref al, .ref aL, .ref aD, .ref ac, .ref af, .ref ap, .ref an, .ref ax, .int (nI isz), .int (nI wn), .int (nI chn), .int (nI rn), .int (nI th)]))] s.heap.size = A at hD ⊢
  have hA : ∀ q : Nat, s.heap.size ≤ q → A q := fun q h => by rw [← hAe]; exact Or.inr h
  have hS : va_S A s.heap s.heap [] := va_S.rf
  have hl := lv_entry ([.ref hM, .int i, .int k]) (n := 3) (Nat.le_of_ble_eq_true rfl)
  rw [lg_entry_eq]
  generalize (lg_sl ([.ref hM, .int i, .int k]) ++ List.replicate (3 - (lg_sl ([.ref hM, .int i, .int k])).length) Slot.unset).toArray = ls at hl ⊢
  have hl : lv_has ls 3 [(0, .ref hM), (1, .int i), (2, .int k)] := hl
  refine lv_aload_n hx hb d_Mod_letter_0 rfl (lv_at hl 0 rfl) ?_
  refine lv_iload_n hx hb d_Mod_letter_1 rfl (lv_at hl 1 rfl) ?_
  refine lv_if_lt hx hb d_Mod_letter_2 (tgt := 17) (by decide) (fun q1 => ?_) (fun q1 => ?_)
  · refine lv_iconst (v := nI 1) hx hb d_Mod_letter_17 (by decide) ?_
    refine lv_goto hx hb d_Mod_letter_18 (tgt := 22) (by decide) ?_
    refine va_put (D := (dC, dI)) (ci := 1) (v := .int (nI 1)) (ty := .int) (C := R_Mod) (T := F_Mod) (N := 16) hx hb hts hin_Mod t_Mod t_Mod_ok n_Mod hown hK hP hD hS 0 rfl rfl 15 (by decide) (hts _ (nw_mc 187 rfl)) (fun _ h9 => h9) rfl (by decide +kernel) rfl rfl (Nat.le_of_ble_eq_true rfl) d_Mod_letter_22 (fun H locs hP hD hS => ?_)
    replace hP : va_P (dC, dI) nw_cls [(hM, .inr (1, [.ref ai, .ref aw, .ref ar, .ref al, .ref aL, .ref aD, .ref ac, .ref af, .ref ap, .ref an, .ref ax, .int (nI isz), .int (nI wn), .int (nI chn), .int (nI rn), .int (nI 1)]))] H := hP
    replace hD : va_D A [(hM, .inr (1, [.ref ai, .ref aw, .ref ar, .ref al, .ref aL, .ref aD, .ref ac, .ref af, .ref ap, .ref an, .ref ax, .int (nI isz), .int (nI wn), .int (nI chn), .int (nI rn), .int (nI 1)]))] := hD
    refine lv_aload_n hx hb d_Mod_letter_25 rfl (lv_at hl 0 rfl) ?_
    refine va_get (D := (dC, dI)) (ci := 1) (v := .int (nI 1)) (C := R_Mod) (T := F_Mod) (N := 16) hx hb hts hin_Mod hown hK hP 0 rfl rfl 15 (by decide) (hts _ (nw_mc 187 rfl)) (fun _ h9 => h9) rfl d_Mod_letter_26 ?_
    refine lv_if_eq hx hb d_Mod_letter_29 (tgt := 34) (by decide) (fun hz => ?_) (fun hz => ?_)
    · rw [nw_eq0 (by omega)] at hz
      omega
    · refine lv_iconst (v := nI 0) hx hb d_Mod_letter_32 (by decide) ?_
      exact W.iret (v := nI 0) hx hb hr (fun t ht hW => ⟨⟨_, (), rfl, rfl, by rw [ht]; exact hP, hD⟩, hS.F ht⟩) hS.2.2 d_Mod_letter_33
  · refine lv_iload_n hx hb d_Mod_letter_5 rfl (lv_at hl 1 rfl) ?_
    refine lv_aload_n hx hb d_Mod_letter_6 rfl (lv_at hl 0 rfl) ?_
    refine va_get (D := (dC, dI)) (ci := 1) (v := .int (nI rn)) (C := R_Mod) (T := F_Mod) (N := 16) hx hb hts hin_Mod hown hK hP 0 rfl rfl 14 (by decide) (hts _ (nw_mc 215 rfl)) (fun _ h9 => h9) rfl d_Mod_letter_7 ?_
    refine lv_icmp_ge hx hb d_Mod_letter_10 (tgt := 17) (by decide) (fun q2 => ?_) (fun q2 => ?_)
    · refine lv_iconst (v := nI 1) hx hb d_Mod_letter_17 (by decide) ?_
      refine lv_goto hx hb d_Mod_letter_18 (tgt := 22) (by decide) ?_
      refine va_put (D := (dC, dI)) (ci := 1) (v := .int (nI 1)) (ty := .int) (C := R_Mod) (T := F_Mod) (N := 16) hx hb hts hin_Mod t_Mod t_Mod_ok n_Mod hown hK hP hD hS 0 rfl rfl 15 (by decide) (hts _ (nw_mc 187 rfl)) (fun _ h9 => h9) rfl (by decide +kernel) rfl rfl (Nat.le_of_ble_eq_true rfl) d_Mod_letter_22 (fun H locs hP hD hS => ?_)
      replace hP : va_P (dC, dI) nw_cls [(hM, .inr (1, [.ref ai, .ref aw, .ref ar, .ref al, .ref aL, .ref aD, .ref ac, .ref af, .ref ap, .ref an, .ref ax, .int (nI isz), .int (nI wn), .int (nI chn), .int (nI rn), .int (nI 1)]))] H := hP
      replace hD : va_D A [(hM, .inr (1, [.ref ai, .ref aw, .ref ar, .ref al, .ref aL, .ref aD, .ref ac, .ref af, .ref ap, .ref an, .ref ax, .int (nI isz), .int (nI wn), .int (nI chn), .int (nI rn), .int (nI 1)]))] := hD
      refine lv_aload_n hx hb d_Mod_letter_25 rfl (lv_at hl 0 rfl) ?_
      refine va_get (D := (dC, dI)) (ci := 1) (v := .int (nI 1)) (C := R_Mod) (T := F_Mod) (N := 16) hx hb hts hin_Mod hown hK hP 0 rfl rfl 15 (by decide) (hts _ (nw_mc 187 rfl)) (fun _ h9 => h9) rfl d_Mod_letter_26 ?_
      refine lv_if_eq hx hb d_Mod_letter_29 (tgt := 34) (by decide) (fun hz => ?_) (fun hz => ?_)
      · rw [nw_eq0 (by omega)] at hz
        omega
      · refine lv_iconst (v := nI 0) hx hb d_Mod_letter_32 (by decide) ?_
        exact W.iret (v := nI 0) hx hb hr (fun t ht hW => ⟨⟨_, (), rfl, rfl, by rw [ht]; exact hP, hD⟩, hS.F ht⟩) hS.2.2 d_Mod_letter_33
    · refine lv_iload_n hx hb d_Mod_letter_13 rfl (lv_at hl 2 rfl) ?_
      refine lv_if_ge hx hb d_Mod_letter_14 (tgt := 21) (by decide) (fun q3 => ?_) (fun q3 => ?_)
      · exact (hb0.elim q1 (fun h => h.elim q2 (fun h => Int32.not_lt.mpr q3 h))).elim
      · refine lv_iconst (v := nI 1) hx hb d_Mod_letter_17 (by decide) ?_
        refine lv_goto hx hb d_Mod_letter_18 (tgt := 22) (by decide) ?_
        refine va_put (D := (dC, dI)) (ci := 1) (v := .int (nI 1)) (ty := .int) (C := R_Mod) (T := F_Mod) (N := 16) hx hb hts hin_Mod t_Mod t_Mod_ok n_Mod hown hK hP hD hS 0 rfl rfl 15 (by decide) (hts _ (nw_mc 187 rfl)) (fun _ h9 => h9) rfl (by decide +kernel) rfl rfl (Nat.le_of_ble_eq_true rfl) d_Mod_letter_22 (fun H locs hP hD hS => ?_)
        replace hP : va_P (dC, dI) nw_cls [(hM, .inr (1, [.ref ai, .ref aw, .ref ar, .ref al, .ref aL, .ref aD, .ref ac, .ref af, .ref ap, .ref an, .ref ax, .int (nI isz), .int (nI wn), .int (nI chn), .int (nI rn), .int (nI 1)]))] H := hP
        replace hD : va_D A [(hM, .inr (1, [.ref ai, .ref aw, .ref ar, .ref al, .ref aL, .ref aD, .ref ac, .ref af, .ref ap, .ref an, .ref ax, .int (nI isz), .int (nI wn), .int (nI chn), .int (nI rn), .int (nI 1)]))] := hD
        refine lv_aload_n hx hb d_Mod_letter_25 rfl (lv_at hl 0 rfl) ?_
        refine va_get (D := (dC, dI)) (ci := 1) (v := .int (nI 1)) (C := R_Mod) (T := F_Mod) (N := 16) hx hb hts hin_Mod hown hK hP 0 rfl rfl 15 (by decide) (hts _ (nw_mc 187 rfl)) (fun _ h9 => h9) rfl d_Mod_letter_26 ?_
        refine lv_if_eq hx hb d_Mod_letter_29 (tgt := 34) (by decide) (fun hz => ?_) (fun hz => ?_)
        · rw [nw_eq0 (by omega)] at hz
          omega
        · refine lv_iconst (v := nI 0) hx hb d_Mod_letter_32 (by decide) ?_
          exact W.iret (v := nI 0) hx hb hr (fun t ht hW => ⟨⟨_, (), rfl, rfl, by rw [ht]; exact hP, hD⟩, hS.F ht⟩) hS.2.2 d_Mod_letter_33

set_option maxHeartbeats 4000000 in
set_option maxRecDepth 100000 in
theorem c_Mod_letter (l : Launch) (dC : Nat → ClassId) (dI : Nat → Nat → Nat) (sz : Nat) (cB cI : ClassId) (hM ai aw ar al aL aD ac af ap an ax isz wn chn rn th : Nat) (Y RL : Nat → Nat) (j k : Nat) (hj : j < rn) (hk : k < 2 ^ 31) (hr : rn ≤ 50) (hRL : RL j ≤ 60) : Met l y_Mod_letter w_Mod_letter ({ frames := 0, cells := 0, slots := 0, locals := 0 }) (nw_Pw [.ref hM, .int (nI j), .int (nI k)] (dC, dI) nw_cls [(cB, .byte), (cI, .int)] [(hM, .inr (1, [.ref ai, .ref aw, .ref ar, .ref al, .ref aL, .ref aD, .ref ac, .ref af, .ref ap, .ref an, .ref ax, .int (nI isz), .int (nI wn), .int (nI chn), .int (nI rn), .int (nI th)])), (ar, nw_ai cB 3000 Y), (aL, nw_ai cI 50 RL)] sz) (va_Qi (fun (r : Int32) (_ : Unit) => r = nI (if k < RL j then Y (j * 60 + k) else 0)) (nw_B (dC, dI) nw_cls (va_A [(hM, .inr (1, [.ref ai, .ref aw, .ref ar, .ref al, .ref aL, .ref aD, .ref ac, .ref af, .ref ap, .ref an, .ref ax, .int (nI isz), .int (nI wn), .int (nI chn), .int (nI rn), .int (nI th)])), (ar, nw_ai cB 3000 Y), (aL, nw_ai cI 50 RL)] sz) (fun _ : Unit => [(hM, .inr (1, [.ref ai, .ref aw, .ref ar, .ref al, .ref aL, .ref aD, .ref ac, .ref af, .ref ap, .ref an, .ref ax, .int (nI isz), .int (nI wn), .int (nI chn), .int (nI rn), .int (nI 0)])), (ar, nw_ai cB 3000 Y), (aL, nw_ai cI 50 RL)])) (va_A [(hM, .inr (1, [.ref ai, .ref aw, .ref ar, .ref al, .ref aL, .ref aD, .ref ac, .ref af, .ref ap, .ref an, .ref ax, .int (nI isz), .int (nI wn), .int (nI chn), .int (nI rn), .int (nI th)])), (ar, nw_ai cB 3000 Y), (aL, nw_ai cI 50 RL)] sz)) 0 0 (va_A [(hM, .inr (1, [.ref ai, .ref aw, .ref ar, .ref al, .ref aL, .ref aD, .ref ac, .ref af, .ref ap, .ref an, .ref ax, .int (nI isz), .int (nI wn), .int (nI chn), .int (nI rn), .int (nI th)])), (ar, nw_ai cB 3000 Y), (aL, nw_ai cI 50 RL)] sz) := by
  refine Met.ofW (cc := b_Mod_letter) (maxL := 3) (ret := (some .int)) (by decide) rfl ?_
  intro p e s m args below meth cd s₁ B hml hv0
  obtain ⟨rfl, hsz, hP, hK, hD0⟩ := hv0
  have hx := B.exec
  have hb := B.bytes
  have hr := B.returns
  have hts := atoms_spec (ws := w_Mod_letter) B.pre
  have hown : s.vm.findClass R_Mod = some m.cls := findClass_of_methodNamed B.named
  have hlocks := B.notSynchronized
  subst hsz
  have hD := hD0.self (sz := s.heap.size)
  generalize hAe : va_A [(hM, .inr (1, [.ref ai, .ref aw, .ref ar, .ref al, .ref aL, .ref aD, .ref ac, .ref af, .ref ap, .ref an, .ref ax, .int (nI isz), .int (nI wn), .int (nI chn), .int (nI rn), .int (nI th)])), (ar, nw_ai cB 3000 Y), (aL, nw_ai cI 50 RL)] s.heap.size = A at hD ⊢
  have hA : ∀ q : Nat, s.heap.size ≤ q → A q := fun q h => by rw [← hAe]; exact Or.inr h
  have hS : va_S A s.heap s.heap [] := va_S.rf
  have hl := lv_entry ([.ref hM, .int (nI j), .int (nI k)]) (n := 3) (Nat.le_of_ble_eq_true rfl)
  rw [lg_entry_eq]
  generalize (lg_sl ([.ref hM, .int (nI j), .int (nI k)]) ++ List.replicate (3 - (lg_sl ([.ref hM, .int (nI j), .int (nI k)])).length) Slot.unset).toArray = ls at hl ⊢
  have hl : lv_has ls 3 [(0, .ref hM), (1, .int (nI j)), (2, .int (nI k))] := hl
  have hrn := hr
  have hr := B.returns
  refine lv_aload_n hx hb d_Mod_letter_0 rfl (lv_at hl 0 rfl) ?_
  refine lv_iload_n hx hb d_Mod_letter_1 rfl (lv_at hl 1 rfl) ?_
  refine lv_if_lt hx hb d_Mod_letter_2 (tgt := 17) (by decide) (fun q1 => ?_) (fun q1 => ?_)
  · rw [nw_lt0 (by omega)] at q1
    omega
  · rw [nw_lt0 (by omega)] at q1
    refine lv_iload_n hx hb d_Mod_letter_5 rfl (lv_at hl 1 rfl) ?_
    refine lv_aload_n hx hb d_Mod_letter_6 rfl (lv_at hl 0 rfl) ?_
    refine va_get (D := (dC, dI)) (ci := 1) (v := .int (nI rn)) (C := R_Mod) (T := F_Mod) (N := 16) hx hb hts hin_Mod hown hK hP 0 rfl rfl 14 (by decide) (hts _ (nw_mc 215 rfl)) (fun _ h9 => h9) rfl d_Mod_letter_7 ?_
    refine lv_icmp_ge hx hb d_Mod_letter_10 (tgt := 17) (by decide) (fun q2 => ?_) (fun q2 => ?_)
    · rw [nI_leI (by omega) (by omega)] at q2
      omega
    · rw [nI_leI (by omega) (by omega)] at q2
      refine lv_iload_n hx hb d_Mod_letter_13 rfl (lv_at hl 2 rfl) ?_
      refine lv_if_ge hx hb d_Mod_letter_14 (tgt := 21) (by decide) (fun q3 => ?_) (fun q3 => ?_)
      · rw [nw_0le (by omega)] at q3
        refine lv_iconst (v := nI 0) hx hb d_Mod_letter_21 (by decide) ?_
        refine va_put (D := (dC, dI)) (ci := 1) (v := .int (nI 0)) (ty := .int) (C := R_Mod) (T := F_Mod) (N := 16) hx hb hts hin_Mod t_Mod t_Mod_ok n_Mod hown hK hP hD hS 0 rfl rfl 15 (by decide) (hts _ (nw_mc 187 rfl)) (fun _ h9 => h9) rfl (by decide +kernel) rfl rfl (Nat.le_of_ble_eq_true rfl) d_Mod_letter_22 (fun H locs hP hD hS => ?_)
        replace hP : va_P (dC, dI) nw_cls [(hM, .inr (1, [.ref ai, .ref aw, .ref ar, .ref al, .ref aL, .ref aD, .ref ac, .ref af, .ref ap, .ref an, .ref ax, .int (nI isz), .int (nI wn), .int (nI chn), .int (nI rn), .int (nI 0)])), (ar, nw_ai cB 3000 Y), (aL, nw_ai cI 50 RL)] H := hP
        replace hD : va_D A [(hM, .inr (1, [.ref ai, .ref aw, .ref ar, .ref al, .ref aL, .ref aD, .ref ac, .ref af, .ref ap, .ref an, .ref ax, .int (nI isz), .int (nI wn), .int (nI chn), .int (nI rn), .int (nI 0)])), (ar, nw_ai cB 3000 Y), (aL, nw_ai cI 50 RL)] := hD
        refine lv_aload_n hx hb d_Mod_letter_25 rfl (lv_at hl 0 rfl) ?_
        refine va_get (D := (dC, dI)) (ci := 1) (v := .int (nI 0)) (C := R_Mod) (T := F_Mod) (N := 16) hx hb hts hin_Mod hown hK hP 0 rfl rfl 15 (by decide) (hts _ (nw_mc 187 rfl)) (fun _ h9 => h9) rfl d_Mod_letter_26 ?_
        refine lv_if_eq hx hb d_Mod_letter_29 (tgt := 34) (by decide) (fun q4 => ?_) (fun q4 => ?_)
        · refine lv_iload_n hx hb d_Mod_letter_34 rfl (lv_at hl 2 rfl) ?_
          refine lv_aload_n hx hb d_Mod_letter_35 rfl (lv_at hl 0 rfl) ?_
          refine va_get (D := (dC, dI)) (ci := 1) (v := .ref aL) (C := R_Mod) (T := F_Mod) (N := 16) hx hb hts hin_Mod hown hK hP 0 rfl rfl 4 (by decide) (hts _ (nw_mc 179 rfl)) (fun _ h9 => h9) rfl d_Mod_letter_36 ?_
          refine lv_iload_n hx hb d_Mod_letter_39 rfl (lv_at hl 1 rfl) ?_
          refine nw_iald hx hb hK hP 2 1 rfl rfl (k := j) (by omega) (by first | decide | omega) d_Mod_letter_40 ?_
          refine lv_icmp_ge hx hb d_Mod_letter_41 (tgt := 58) (by decide) (fun q5 => ?_) (fun q5 => ?_)
          · rw [nI_leI (by omega) (by omega)] at q5
            refine lv_iconst (v := nI 0) hx hb d_Mod_letter_58 (by decide) ?_
            refine nw_ti (y := nI (if k < RL j then Y (j * 60 + k) else 0)) (congrArg nI (by rw [if_neg (by omega)])) ?_
            exact W.iret (v := nI (if k < RL j then Y (j * 60 + k) else 0)) hx hb hr (fun t ht hW => ⟨⟨_, (), rfl, rfl, by rw [ht]; exact hP, hD⟩, hS.F ht⟩) hS.2.2 d_Mod_letter_59
          · rw [nI_leI (by omega) (by omega)] at q5
            refine lv_aload_n hx hb d_Mod_letter_44 rfl (lv_at hl 0 rfl) ?_
            refine va_get (D := (dC, dI)) (ci := 1) (v := .ref ar) (C := R_Mod) (T := F_Mod) (N := 16) hx hb hts hin_Mod hown hK hP 0 rfl rfl 2 (by decide) (hts _ (nw_mc 176 rfl)) (fun _ h9 => h9) rfl d_Mod_letter_45 ?_
            refine lv_iload_n hx hb d_Mod_letter_48 rfl (lv_at hl 1 rfl) ?_
            refine lv_bipush (v := nI 60) hx hb d_Mod_letter_49 (by decide) ?_
            refine lv_imul hx hb d_Mod_letter_51 ?_
            refine nw_ti (pk_mul j 60) ?_
            refine lv_iload_n hx hb d_Mod_letter_52 rfl (lv_at hl 2 rfl) ?_
            refine lv_iadd hx hb d_Mod_letter_53 ?_
            refine nw_ti (nI_add (j * 60) k) ?_
            refine nw_bald hx hb hK hP 1 0 rfl rfl (k := ((j * 60) + k)) (by omega) (by first | decide | omega) d_Mod_letter_54 ?_
            refine lv_goto hx hb d_Mod_letter_55 (tgt := 59) (by decide) ?_
            refine nw_ti (y := nI (if k < RL j then Y (j * 60 + k) else 0)) (congrArg nI (by rw [if_pos (by omega)])) ?_
            exact W.iret (v := nI (if k < RL j then Y (j * 60 + k) else 0)) hx hb hr (fun t ht hW => ⟨⟨_, (), rfl, rfl, by rw [ht]; exact hP, hD⟩, hS.F ht⟩) hS.2.2 d_Mod_letter_59
        · rw [nw_eq0 (by omega)] at q4
          omega
      · rw [nw_0le (by omega)] at q3
        omega

set_option maxHeartbeats 4000000 in
set_option maxRecDepth 100000 in
theorem c_Mod_distance_bad (l : Launch) (dC : Nat → ClassId) (dI : Nat → Nat → Nat) (sz : Nat) (hM ai aw ar al aL aD ac af ap an ax isz wn chn rn th : Nat) (i : Int32) (hb0 : i < 0 ∨ nI rn ≤ i) : Met l y_Mod_distance w_Mod_distance ({ frames := 0, cells := 0, slots := 0, locals := 0 }) (nw_Pw [.ref hM, .int i] (dC, dI) nw_cls [] [(hM, .inr (1, [.ref ai, .ref aw, .ref ar, .ref al, .ref aL, .ref aD, .ref ac, .ref af, .ref ap, .ref an, .ref ax, .int (nI isz), .int (nI wn), .int (nI chn), .int (nI rn), .int (nI th)]))] sz) (va_Qi (fun (r : Int32) (_ : Unit) => r = nI 0) (nw_B (dC, dI) nw_cls (va_A [(hM, .inr (1, [.ref ai, .ref aw, .ref ar, .ref al, .ref aL, .ref aD, .ref ac, .ref af, .ref ap, .ref an, .ref ax, .int (nI isz), .int (nI wn), .int (nI chn), .int (nI rn), .int (nI th)]))] sz) (fun _ : Unit => [(hM, .inr (1, [.ref ai, .ref aw, .ref ar, .ref al, .ref aL, .ref aD, .ref ac, .ref af, .ref ap, .ref an, .ref ax, .int (nI isz), .int (nI wn), .int (nI chn), .int (nI rn), .int (nI 1)]))])) (va_A [(hM, .inr (1, [.ref ai, .ref aw, .ref ar, .ref al, .ref aL, .ref aD, .ref ac, .ref af, .ref ap, .ref an, .ref ax, .int (nI isz), .int (nI wn), .int (nI chn), .int (nI rn), .int (nI th)]))] sz)) 0 0 (va_A [(hM, .inr (1, [.ref ai, .ref aw, .ref ar, .ref al, .ref aL, .ref aD, .ref ac, .ref af, .ref ap, .ref an, .ref ax, .int (nI isz), .int (nI wn), .int (nI chn), .int (nI rn), .int (nI th)]))] sz) := by
  refine Met.ofW (cc := b_Mod_distance) (maxL := 2) (ret := (some .int)) (by decide) rfl ?_
  intro p e s m args below meth cd s₁ B hml hv0
  obtain ⟨rfl, hsz, hP, hK, hD0⟩ := hv0
  have hx := B.exec
  have hb := B.bytes
  have hr := B.returns
  have hts := atoms_spec (ws := w_Mod_distance) B.pre
  have hown : s.vm.findClass R_Mod = some m.cls := findClass_of_methodNamed B.named
  have hlocks := B.notSynchronized
  subst hsz
  have hD := hD0.self (sz := s.heap.size)
  generalize hAe : va_A [(hM, .inr (1, [.ref ai, .ref aw, .ref ar, .ref al, .ref aL, .ref aD, .ref ac, .ref af, .ref ap, .ref an, .ref ax, .int (nI isz), .int (nI wn), .int (nI chn), .int (nI rn), .int (nI th)]))] s.heap.size = A at hD ⊢
  have hA : ∀ q : Nat, s.heap.size ≤ q → A q := fun q h => by rw [← hAe]; exact Or.inr h
  have hS : va_S A s.heap s.heap [] := va_S.rf
  have hl := lv_entry ([.ref hM, .int i]) (n := 2) (Nat.le_of_ble_eq_true rfl)
  rw [lg_entry_eq]
  generalize (lg_sl ([.ref hM, .int i]) ++ List.replicate (2 - (lg_sl ([.ref hM, .int i])).length) Slot.unset).toArray = ls at hl ⊢
  have hl : lv_has ls 2 [(0, .ref hM), (1, .int i)] := hl
  refine lv_aload_n hx hb d_Mod_distance_0 rfl (lv_at hl 0 rfl) ?_
  refine lv_iload_n hx hb d_Mod_distance_1 rfl (lv_at hl 1 rfl) ?_
  refine lv_if_lt hx hb d_Mod_distance_2 (tgt := 13) (by decide) (fun q1 => ?_) (fun q1 => ?_)
  · refine lv_iconst (v := nI 1) hx hb d_Mod_distance_13 (by decide) ?_
    refine lv_goto hx hb d_Mod_distance_14 (tgt := 18) (by decide) ?_
    refine va_put (D := (dC, dI)) (ci := 1) (v := .int (nI 1)) (ty := .int) (C := R_Mod) (T := F_Mod) (N := 16) hx hb hts hin_Mod t_Mod t_Mod_ok n_Mod hown hK hP hD hS 0 rfl rfl 15 (by decide) (hts _ (nw_mc 187 rfl)) (fun _ h9 => h9) rfl (by decide +kernel) rfl rfl (Nat.le_of_ble_eq_true rfl) d_Mod_distance_18 (fun H locs hP hD hS => ?_)
    replace hP : va_P (dC, dI) nw_cls [(hM, .inr (1, [.ref ai, .ref aw, .ref ar, .ref al, .ref aL, .ref aD, .ref ac, .ref af, .ref ap, .ref an, .ref ax, .int (nI isz), .int (nI wn), .int (nI chn), .int (nI rn), .int (nI 1)]))] H := hP
    replace hD : va_D A [(hM, .inr (1, [.ref ai, .ref aw, .ref ar, .ref al, .ref aL, .ref aD, .ref ac, .ref af, .ref ap, .ref an, .ref ax, .int (nI isz), .int (nI wn), .int (nI chn), .int (nI rn), .int (nI 1)]))] := hD
    refine lv_aload_n hx hb d_Mod_distance_21 rfl (lv_at hl 0 rfl) ?_
    refine va_get (D := (dC, dI)) (ci := 1) (v := .int (nI 1)) (C := R_Mod) (T := F_Mod) (N := 16) hx hb hts hin_Mod hown hK hP 0 rfl rfl 15 (by decide) (hts _ (nw_mc 187 rfl)) (fun _ h9 => h9) rfl d_Mod_distance_22 ?_
    refine lv_if_eq hx hb d_Mod_distance_25 (tgt := 32) (by decide) (fun hz => ?_) (fun hz => ?_)
    · rw [nw_eq0 (by omega)] at hz
      omega
    · refine lv_iconst (v := nI 0) hx hb d_Mod_distance_28 (by decide) ?_
      refine lv_goto hx hb d_Mod_distance_29 (tgt := 38) (by decide) ?_
      exact W.iret (v := nI 0) hx hb hr (fun t ht hW => ⟨⟨_, (), rfl, rfl, by rw [ht]; exact hP, hD⟩, hS.F ht⟩) hS.2.2 d_Mod_distance_38
  · refine lv_iload_n hx hb d_Mod_distance_5 rfl (lv_at hl 1 rfl) ?_
    refine lv_aload_n hx hb d_Mod_distance_6 rfl (lv_at hl 0 rfl) ?_
    refine va_get (D := (dC, dI)) (ci := 1) (v := .int (nI rn)) (C := R_Mod) (T := F_Mod) (N := 16) hx hb hts hin_Mod hown hK hP 0 rfl rfl 14 (by decide) (hts _ (nw_mc 215 rfl)) (fun _ h9 => h9) rfl d_Mod_distance_7 ?_
    refine lv_icmp_lt hx hb d_Mod_distance_10 (tgt := 17) (by decide) (fun q2 => ?_) (fun q2 => ?_)
    · exact (hb0.elim q1 (fun h => Int32.not_lt.mpr h q2)).elim
    · refine lv_iconst (v := nI 1) hx hb d_Mod_distance_13 (by decide) ?_
      refine lv_goto hx hb d_Mod_distance_14 (tgt := 18) (by decide) ?_
      refine va_put (D := (dC, dI)) (ci := 1) (v := .int (nI 1)) (ty := .int) (C := R_Mod) (T := F_Mod) (N := 16) hx hb hts hin_Mod t_Mod t_Mod_ok n_Mod hown hK hP hD hS 0 rfl rfl 15 (by decide) (hts _ (nw_mc 187 rfl)) (fun _ h9 => h9) rfl (by decide +kernel) rfl rfl (Nat.le_of_ble_eq_true rfl) d_Mod_distance_18 (fun H locs hP hD hS => ?_)
      replace hP : va_P (dC, dI) nw_cls [(hM, .inr (1, [.ref ai, .ref aw, .ref ar, .ref al, .ref aL, .ref aD, .ref ac, .ref af, .ref ap, .ref an, .ref ax, .int (nI isz), .int (nI wn), .int (nI chn), .int (nI rn), .int (nI 1)]))] H := hP
      replace hD : va_D A [(hM, .inr (1, [.ref ai, .ref aw, .ref ar, .ref al, .ref aL, .ref aD, .ref ac, .ref af, .ref ap, .ref an, .ref ax, .int (nI isz), .int (nI wn), .int (nI chn), .int (nI rn), .int (nI 1)]))] := hD
      refine lv_aload_n hx hb d_Mod_distance_21 rfl (lv_at hl 0 rfl) ?_
      refine va_get (D := (dC, dI)) (ci := 1) (v := .int (nI 1)) (C := R_Mod) (T := F_Mod) (N := 16) hx hb hts hin_Mod hown hK hP 0 rfl rfl 15 (by decide) (hts _ (nw_mc 187 rfl)) (fun _ h9 => h9) rfl d_Mod_distance_22 ?_
      refine lv_if_eq hx hb d_Mod_distance_25 (tgt := 32) (by decide) (fun hz => ?_) (fun hz => ?_)
      · rw [nw_eq0 (by omega)] at hz
        omega
      · refine lv_iconst (v := nI 0) hx hb d_Mod_distance_28 (by decide) ?_
        refine lv_goto hx hb d_Mod_distance_29 (tgt := 38) (by decide) ?_
        exact W.iret (v := nI 0) hx hb hr (fun t ht hW => ⟨⟨_, (), rfl, rfl, by rw [ht]; exact hP, hD⟩, hS.F ht⟩) hS.2.2 d_Mod_distance_38

set_option maxHeartbeats 4000000 in
set_option maxRecDepth 100000 in
theorem c_Mod_distance (l : Launch) (dC : Nat → ClassId) (dI : Nat → Nat → Nat) (sz : Nat) (cI : ClassId) (hM ai aw ar al aL aD ac af ap an ax isz wn chn rn th : Nat) (RD : Nat → Nat) (j : Nat) (hj : j < rn) (hrn : rn ≤ 50) : Met l y_Mod_distance w_Mod_distance ({ frames := 0, cells := 0, slots := 0, locals := 0 }) (nw_Pw [.ref hM, .int (nI j)] (dC, dI) nw_cls [(cI, .int)] [(hM, .inr (1, [.ref ai, .ref aw, .ref ar, .ref al, .ref aL, .ref aD, .ref ac, .ref af, .ref ap, .ref an, .ref ax, .int (nI isz), .int (nI wn), .int (nI chn), .int (nI rn), .int (nI th)])), (aD, nw_ai cI 50 RD)] sz) (va_Qi (fun (r : Int32) (_ : Unit) => r = nI (RD j)) (nw_B (dC, dI) nw_cls (va_A [(hM, .inr (1, [.ref ai, .ref aw, .ref ar, .ref al, .ref aL, .ref aD, .ref ac, .ref af, .ref ap, .ref an, .ref ax, .int (nI isz), .int (nI wn), .int (nI chn), .int (nI rn), .int (nI th)])), (aD, nw_ai cI 50 RD)] sz) (fun _ : Unit => [(hM, .inr (1, [.ref ai, .ref aw, .ref ar, .ref al, .ref aL, .ref aD, .ref ac, .ref af, .ref ap, .ref an, .ref ax, .int (nI isz), .int (nI wn), .int (nI chn), .int (nI rn), .int (nI 0)])), (aD, nw_ai cI 50 RD)])) (va_A [(hM, .inr (1, [.ref ai, .ref aw, .ref ar, .ref al, .ref aL, .ref aD, .ref ac, .ref af, .ref ap, .ref an, .ref ax, .int (nI isz), .int (nI wn), .int (nI chn), .int (nI rn), .int (nI th)])), (aD, nw_ai cI 50 RD)] sz)) 0 0 (va_A [(hM, .inr (1, [.ref ai, .ref aw, .ref ar, .ref al, .ref aL, .ref aD, .ref ac, .ref af, .ref ap, .ref an, .ref ax, .int (nI isz), .int (nI wn), .int (nI chn), .int (nI rn), .int (nI th)])), (aD, nw_ai cI 50 RD)] sz) := by
  refine Met.ofW (cc := b_Mod_distance) (maxL := 2) (ret := (some .int)) (by decide) rfl ?_
  intro p e s m args below meth cd s₁ B hml hv0
  obtain ⟨rfl, hsz, hP, hK, hD0⟩ := hv0
  have hx := B.exec
  have hb := B.bytes
  have hr := B.returns
  have hts := atoms_spec (ws := w_Mod_distance) B.pre
  have hown : s.vm.findClass R_Mod = some m.cls := findClass_of_methodNamed B.named
  have hlocks := B.notSynchronized
  subst hsz
  have hD := hD0.self (sz := s.heap.size)
  generalize hAe : va_A [(hM, .inr (1, [.ref ai, .ref aw, .ref ar, .ref al, .ref aL, .ref aD, .ref ac, .ref af, .ref ap, .ref an, .ref ax, .int (nI isz), .int (nI wn), .int (nI chn), .int (nI rn), .int (nI th)])), (aD, nw_ai cI 50 RD)] s.heap.size = A at hD ⊢
  have hA : ∀ q : Nat, s.heap.size ≤ q → A q := fun q h => by rw [← hAe]; exact Or.inr h
  have hS : va_S A s.heap s.heap [] := va_S.rf
  have hl := lv_entry ([.ref hM, .int (nI j)]) (n := 2) (Nat.le_of_ble_eq_true rfl)
  rw [lg_entry_eq]
  generalize (lg_sl ([.ref hM, .int (nI j)]) ++ List.replicate (2 - (lg_sl ([.ref hM, .int (nI j)])).length) Slot.unset).toArray = ls at hl ⊢
  have hl : lv_has ls 2 [(0, .ref hM), (1, .int (nI j))] := hl
  refine lv_aload_n hx hb d_Mod_distance_0 rfl (lv_at hl 0 rfl) ?_
  refine lv_iload_n hx hb d_Mod_distance_1 rfl (lv_at hl 1 rfl) ?_
  refine lv_if_lt hx hb d_Mod_distance_2 (tgt := 13) (by decide) (fun q1 => ?_) (fun q1 => ?_)
  · rw [nw_lt0 (by omega)] at q1
    omega
  · rw [nw_lt0 (by omega)] at q1
    refine lv_iload_n hx hb d_Mod_distance_5 rfl (lv_at hl 1 rfl) ?_
    refine lv_aload_n hx hb d_Mod_distance_6 rfl (lv_at hl 0 rfl) ?_
    refine va_get (D := (dC, dI)) (ci := 1) (v := .int (nI rn)) (C := R_Mod) (T := F_Mod) (N := 16) hx hb hts hin_Mod hown hK hP 0 rfl rfl 14 (by decide) (hts _ (nw_mc 215 rfl)) (fun _ h9 => h9) rfl d_Mod_distance_7 ?_
    refine lv_icmp_lt hx hb d_Mod_distance_10 (tgt := 17) (by decide) (fun q2 => ?_) (fun q2 => ?_)
    · rw [nI_ltI (by omega) (by omega)] at q2
      refine lv_iconst (v := nI 0) hx hb d_Mod_distance_17 (by decide) ?_
      refine va_put (D := (dC, dI)) (ci := 1) (v := .int (nI 0)) (ty := .int) (C := R_Mod) (T := F_Mod) (N := 16) hx hb hts hin_Mod t_Mod t_Mod_ok n_Mod hown hK hP hD hS 0 rfl rfl 15 (by decide) (hts _ (nw_mc 187 rfl)) (fun _ h9 => h9) rfl (by decide +kernel) rfl rfl (Nat.le_of_ble_eq_true rfl) d_Mod_distance_18 (fun H locs hP hD hS => ?_)
      replace hP : va_P (dC, dI) nw_cls [(hM, .inr (1, [.ref ai, .ref aw, .ref ar, .ref al, .ref aL, .ref aD, .ref ac, .ref af, .ref ap, .ref an, .ref ax, .int (nI isz), .int (nI wn), .int (nI chn), .int (nI rn), .int (nI 0)])), (aD, nw_ai cI 50 RD)] H := hP
      replace hD : va_D A [(hM, .inr (1, [.ref ai, .ref aw, .ref ar, .ref al, .ref aL, .ref aD, .ref ac, .ref af, .ref ap, .ref an, .ref ax, .int (nI isz), .int (nI wn), .int (nI chn), .int (nI rn), .int (nI 0)])), (aD, nw_ai cI 50 RD)] := hD
      refine lv_aload_n hx hb d_Mod_distance_21 rfl (lv_at hl 0 rfl) ?_
      refine va_get (D := (dC, dI)) (ci := 1) (v := .int (nI 0)) (C := R_Mod) (T := F_Mod) (N := 16) hx hb hts hin_Mod hown hK hP 0 rfl rfl 15 (by decide) (hts _ (nw_mc 187 rfl)) (fun _ h9 => h9) rfl d_Mod_distance_22 ?_
      refine lv_if_eq hx hb d_Mod_distance_25 (tgt := 32) (by decide) (fun q3 => ?_) (fun q3 => ?_)
      · refine lv_aload_n hx hb d_Mod_distance_32 rfl (lv_at hl 0 rfl) ?_
        refine va_get (D := (dC, dI)) (ci := 1) (v := .ref aD) (C := R_Mod) (T := F_Mod) (N := 16) hx hb hts hin_Mod hown hK hP 0 rfl rfl 5 (by decide) (hts _ (nw_mc 180 rfl)) (fun _ h9 => h9) rfl d_Mod_distance_33 ?_
        refine lv_iload_n hx hb d_Mod_distance_36 rfl (lv_at hl 1 rfl) ?_
        refine nw_iald hx hb hK hP 1 0 rfl rfl (k := j) (by omega) (by first | decide | omega) d_Mod_distance_37 ?_
        exact W.iret (v := nI (RD j)) hx hb hr (fun t ht hW => ⟨⟨_, (), rfl, rfl, by rw [ht]; exact hP, hD⟩, hS.F ht⟩) hS.2.2 d_Mod_distance_38
      · rw [nw_eq0 (by omega)] at q3
        omega
    · rw [nI_ltI (by omega) (by omega)] at q2
      omega

set_option maxHeartbeats 4000000 in
set_option maxRecDepth 100000 in
theorem c_Mod_shift (l : Launch) (dC : Nat → ClassId) (dI : Nat → Nat → Nat) (sz : Nat) (cB cI : ClassId) (hM ai aw ar al aL aD ac af ap an ax isz wn chn rn th : Nat) (X Ln : Nat → Nat) (fr to many : Nat) (hfr : fr < 1000) (hto : to < 1000) (hne : fr ≠ to) (hma : many ≤ 60) (hX : ∀ j, X j < 128) : Met l y_Mod_shift w_Mod_shift ({ frames := 0, cells := 0, slots := 0, locals := 0 }) (nw_Pw [.ref hM, .int (nI fr), .int (nI to), .int (nI many)] (dC, dI) nw_cls [(cB, .byte), (cI, .int)] [(hM, .inr (1, [.ref ai, .ref aw, .ref ar, .ref al, .ref aL, .ref aD, .ref ac, .ref af, .ref ap, .ref an, .ref ax, .int (nI isz), .int (nI wn), .int (nI chn), .int (nI rn), .int (nI th)])), (aw, nw_ai cB 60000 X), (al, nw_ai cI 1000 Ln)] sz) (va_Qv (fun _ : Unit => True) (nw_B (dC, dI) nw_cls (va_A [(hM, .inr (1, [.ref ai, .ref aw, .ref ar, .ref al, .ref aL, .ref aD, .ref ac, .ref af, .ref ap, .ref an, .ref ax, .int (nI isz), .int (nI wn), .int (nI chn), .int (nI rn), .int (nI th)])), (aw, nw_ai cB 60000 X), (al, nw_ai cI 1000 Ln)] sz) (fun _ : Unit => [(hM, .inr (1, [.ref ai, .ref aw, .ref ar, .ref al, .ref aL, .ref aD, .ref ac, .ref af, .ref ap, .ref an, .ref ax, .int (nI isz), .int (nI wn), .int (nI chn), .int (nI rn), .int (nI th)])), (aw, nw_ai cB 60000 (va_cpy X X (fr * 60) (to * 60) many)), (al, nw_ai cI 1000 (va_up Ln to many))])) (va_A [(hM, .inr (1, [.ref ai, .ref aw, .ref ar, .ref al, .ref aL, .ref aD, .ref ac, .ref af, .ref ap, .ref an, .ref ax, .int (nI isz), .int (nI wn), .int (nI chn), .int (nI rn), .int (nI th)])), (aw, nw_ai cB 60000 X), (al, nw_ai cI 1000 Ln)] sz)) 0 0 (va_A [(hM, .inr (1, [.ref ai, .ref aw, .ref ar, .ref al, .ref aL, .ref aD, .ref ac, .ref af, .ref ap, .ref an, .ref ax, .int (nI isz), .int (nI wn), .int (nI chn), .int (nI rn), .int (nI th)])), (aw, nw_ai cB 60000 X), (al, nw_ai cI 1000 Ln)] sz) := by
  refine Met.ofW (cc := b_Mod_shift) (maxL := 5) (ret := none) (by decide) rfl ?_
  intro p e s m args below meth cd s₁ B hml hv0
  obtain ⟨rfl, hsz, hP, hK, hD0⟩ := hv0
  have hx := B.exec
  have hb := B.bytes
  have hr := B.returns
  have hts := atoms_spec (ws := w_Mod_shift) B.pre
  have hown : s.vm.findClass R_Mod = some m.cls := findClass_of_methodNamed B.named
  have hlocks := B.notSynchronized
  subst hsz
  have hD := hD0.self (sz := s.heap.size)
  generalize hAe : va_A [(hM, .inr (1, [.ref ai, .ref aw, .ref ar, .ref al, .ref aL, .ref aD, .ref ac, .ref af, .ref ap, .ref an, .ref ax, .int (nI isz), .int (nI wn), .int (nI chn), .int (nI rn), .int (nI th)])), (aw, nw_ai cB 60000 X), (al, nw_ai cI 1000 Ln)] s.heap.size = A at hD ⊢
  have hA : ∀ q : Nat, s.heap.size ≤ q → A q := fun q h => by rw [← hAe]; exact Or.inr h
  have hS : va_S A s.heap s.heap [] := va_S.rf
  have hl := lv_entry ([.ref hM, .int (nI fr), .int (nI to), .int (nI many)]) (n := 5) (Nat.le_of_ble_eq_true rfl)
  rw [lg_entry_eq]
  generalize (lg_sl ([.ref hM, .int (nI fr), .int (nI to), .int (nI many)]) ++ List.replicate (5 - (lg_sl ([.ref hM, .int (nI fr), .int (nI to), .int (nI many)])).length) Slot.unset).toArray = ls at hl ⊢
  have hl : lv_has ls 5 [(0, .ref hM), (1, .int (nI fr)), (2, .int (nI to)), (3, .int (nI many))] := hl
  refine lv_iconst (v := nI 0) hx hb d_Mod_shift_0 (by decide) ?_
  refine lv_istore hx hb d_Mod_shift_1 hl (by decide) rfl (fun ls hl => ?_)
  replace hl : lv_has ls 5 [(4, .int (nI 0)), (0, .ref hM), (1, .int (nI fr)), (2, .int (nI to)), (3, .int (nI many))] := hl
  refine nw_loopW (σ := Nat × (Nat → Nat)) (fun x => match x with | (k, f) => k ≤ many ∧ ∀ x, f x = va_cpy X X (fr * 60) (to * 60) k x) (fun x => match x with | (k, f) => [(4, .int (nI k)), (0, .ref hM), (1, .int (nI fr)), (2, .int (nI to)), (3, .int (nI many))]) (fun x => match x with | (k, f) => [(hM, .inr (1, [.ref ai, .ref aw, .ref ar, .ref al, .ref aL, .ref aD, .ref ac, .ref af, .ref ap, .ref an, .ref ax, .int (nI isz), .int (nI wn), .int (nI chn), .int (nI rn), .int (nI th)])), (aw, nw_ai cB 60000 f), (al, nw_ai cI 1000 Ln)]) (fun x => match x with | (k, f) => many - k) (fun x hI ih ls H locs hl hP hD hS => ?_) (0, X) (⟨Nat.zero_le _, fun x => (nw_cpy_0 X X _ _ x).symm⟩) hl hP hD hS
  obtain ⟨k, f⟩ := x
  replace hI : k ≤ many ∧ ∀ x, f x = va_cpy X X (fr * 60) (to * 60) k x := hI
  replace hl : lv_has ls 5 [(4, .int (nI k)), (0, .ref hM), (1, .int (nI fr)), (2, .int (nI to)), (3, .int (nI many))] := hl
  replace hP : va_P (dC, dI) nw_cls [(hM, .inr (1, [.ref ai, .ref aw, .ref ar, .ref al, .ref aL, .ref aD, .ref ac, .ref af, .ref ap, .ref an, .ref ax, .int (nI isz), .int (nI wn), .int (nI chn), .int (nI rn), .int (nI th)])), (aw, nw_ai cB 60000 f), (al, nw_ai cI 1000 Ln)] H := hP
  replace hD : va_D A [(hM, .inr (1, [.ref ai, .ref aw, .ref ar, .ref al, .ref aL, .ref aD, .ref ac, .ref af, .ref ap, .ref an, .ref ax, .int (nI isz), .int (nI wn), .int (nI chn), .int (nI rn), .int (nI th)])), (aw, nw_ai cB 60000 f), (al, nw_ai cI 1000 Ln)] := hD
  obtain ⟨hk, hf⟩ := hI
  refine lv_iload hx hb d_Mod_shift_3 (lv_at hl 0 rfl) ?_
  refine lv_iload_n hx hb d_Mod_shift_5 rfl (lv_at hl 4 rfl) ?_
  refine lv_icmp_ge hx hb d_Mod_shift_6 (tgt := 39) (by decide) (fun hc1 => ?_) (fun hc1 => ?_)
  · rw [nI_leI (by omega) (by omega)] at hc1
    obtain rfl : f = va_cpy X X (fr * 60) (to * 60) many := funext fun x => by rw [hf x, show k = many by omega]
    replace hP : va_P (dC, dI) nw_cls [(hM, .inr (1, [.ref ai, .ref aw, .ref ar, .ref al, .ref aL, .ref aD, .ref ac, .ref af, .ref ap, .ref an, .ref ax, .int (nI isz), .int (nI wn), .int (nI chn), .int (nI rn), .int (nI th)])), (aw, nw_ai cB 60000 (va_cpy X X (fr * 60) (to * 60) many)), (al, nw_ai cI 1000 Ln)] H := hP
    replace hD : va_D A [(hM, .inr (1, [.ref ai, .ref aw, .ref ar, .ref al, .ref aL, .ref aD, .ref ac, .ref af, .ref ap, .ref an, .ref ax, .int (nI isz), .int (nI wn), .int (nI chn), .int (nI rn), .int (nI th)])), (aw, nw_ai cB 60000 (va_cpy X X (fr * 60) (to * 60) many)), (al, nw_ai cI 1000 Ln)] := hD
    refine lv_aload_n hx hb d_Mod_shift_39 rfl (lv_at hl 1 rfl) ?_
    refine va_get (D := (dC, dI)) (ci := 1) (v := .ref al) (C := R_Mod) (T := F_Mod) (N := 16) hx hb hts hin_Mod hown hK hP 0 rfl rfl 3 (by decide) (hts _ (nw_mc 178 rfl)) (fun _ h9 => h9) rfl d_Mod_shift_40 ?_
    refine lv_iload_n hx hb d_Mod_shift_43 rfl (lv_at hl 3 rfl) ?_
    refine lv_iload_n hx hb d_Mod_shift_44 rfl (lv_at hl 4 rfl) ?_
    refine nw_iast hx hb hK hP hD hS 2 1 rfl rfl (k := to) (v := many) (by omega) (by first | decide | omega) d_Mod_shift_45 (fun H locs hP hD hS => ?_)
    replace hP : va_P (dC, dI) nw_cls [(hM, .inr (1, [.ref ai, .ref aw, .ref ar, .ref al, .ref aL, .ref aD, .ref ac, .ref af, .ref ap, .ref an, .ref ax, .int (nI isz), .int (nI wn), .int (nI chn), .int (nI rn), .int (nI th)])), (aw, nw_ai cB 60000 (va_cpy X X (fr * 60) (to * 60) many)), (al, nw_ai cI 1000 (va_up Ln to many))] H := hP
    replace hD : va_D A [(hM, .inr (1, [.ref ai, .ref aw, .ref ar, .ref al, .ref aL, .ref aD, .ref ac, .ref af, .ref ap, .ref an, .ref ax, .int (nI isz), .int (nI wn), .int (nI chn), .int (nI rn), .int (nI th)])), (aw, nw_ai cB 60000 (va_cpy X X (fr * 60) (to * 60) many)), (al, nw_ai cI 1000 (va_up Ln to many))] := hD
    exact W.vret hx hb hr (fun t ht hW => ⟨⟨(), rfl, trivial, by rw [ht]; exact hP, hD⟩, hS.F ht⟩) hS.2.2 d_Mod_shift_46
  · rw [nI_leI (by omega) (by omega)] at hc1
    have hv : f ((fr * 60) + k) = X (fr * 60 + k) := by rw [hf, pk_cpy_out (by omega)]
    have hv2 := hX (fr * 60 + k)
    refine lv_aload_n hx hb d_Mod_shift_9 rfl (lv_at hl 1 rfl) ?_
    refine va_get (D := (dC, dI)) (ci := 1) (v := .ref aw) (C := R_Mod) (T := F_Mod) (N := 16) hx hb hts hin_Mod hown hK hP 0 rfl rfl 1 (by decide) (hts _ (nw_mc 175 rfl)) (fun _ h9 => h9) rfl d_Mod_shift_10 ?_
    refine lv_iload_n hx hb d_Mod_shift_13 rfl (lv_at hl 3 rfl) ?_
    refine lv_bipush (v := nI 60) hx hb d_Mod_shift_14 (by decide) ?_
    refine lv_imul hx hb d_Mod_shift_16 ?_
    refine nw_ti (pk_mul to 60) ?_
    refine lv_iload hx hb d_Mod_shift_17 (lv_at hl 0 rfl) ?_
    refine lv_iadd hx hb d_Mod_shift_19 ?_
    refine nw_ti (nI_add (to * 60) k) ?_
    refine lv_aload_n hx hb d_Mod_shift_20 rfl (lv_at hl 1 rfl) ?_
    refine va_get (D := (dC, dI)) (ci := 1) (v := .ref aw) (C := R_Mod) (T := F_Mod) (N := 16) hx hb hts hin_Mod hown hK hP 0 rfl rfl 1 (by decide) (hts _ (nw_mc 175 rfl)) (fun _ h9 => h9) rfl d_Mod_shift_21 ?_
    refine lv_iload_n hx hb d_Mod_shift_24 rfl (lv_at hl 2 rfl) ?_
    refine lv_bipush (v := nI 60) hx hb d_Mod_shift_25 (by decide) ?_
    refine lv_imul hx hb d_Mod_shift_27 ?_
    refine nw_ti (pk_mul fr 60) ?_
    refine lv_iload hx hb d_Mod_shift_28 (lv_at hl 0 rfl) ?_
    refine lv_iadd hx hb d_Mod_shift_30 ?_
    refine nw_ti (nI_add (fr * 60) k) ?_
    refine nw_bald hx hb hK hP 1 0 rfl rfl (k := ((fr * 60) + k)) (by omega) (by first | decide | omega) d_Mod_shift_31 ?_
    refine nw_bast hx hb hK hP hD hS 1 0 rfl rfl (k := ((to * 60) + k)) (v := (f ((fr * 60) + k))) (by omega) (by first | decide | omega) (by omega) d_Mod_shift_32 (fun H locs hP hD hS => ?_)
    replace hP : va_P (dC, dI) nw_cls [(hM, .inr (1, [.ref ai, .ref aw, .ref ar, .ref al, .ref aL, .ref aD, .ref ac, .ref af, .ref ap, .ref an, .ref ax, .int (nI isz), .int (nI wn), .int (nI chn), .int (nI rn), .int (nI th)])), (aw, nw_ai cB 60000 (va_up f ((to * 60) + k) (f ((fr * 60) + k)))), (al, nw_ai cI 1000 Ln)] H := hP
    replace hD : va_D A [(hM, .inr (1, [.ref ai, .ref aw, .ref ar, .ref al, .ref aL, .ref aD, .ref ac, .ref af, .ref ap, .ref an, .ref ax, .int (nI isz), .int (nI wn), .int (nI chn), .int (nI rn), .int (nI th)])), (aw, nw_ai cB 60000 (va_up f ((to * 60) + k) (f ((fr * 60) + k)))), (al, nw_ai cI 1000 Ln)] := hD
    refine lv_iinc (v := nI (k + 1)) hx hb d_Mod_shift_33 hl (k := 0) rfl (nI_add k 1) (by decide) rfl (fun ls hl => ?_)
    have hl : lv_has ls 5 [(4, .int (nI (k + 1))), (0, .ref hM), (1, .int (nI fr)), (2, .int (nI to)), (3, .int (nI many))] := hl
    refine lv_goto hx hb d_Mod_shift_36 (tgt := 3) (by decide) ?_
    exact ih (k + 1, va_up f ((to * 60) + k) (f ((fr * 60) + k))) (⟨by omega, nw_cpy_s hf hv⟩) (show many - (k + 1) < many - k by omega) _ _ _ hl hP hD hS

set_option maxHeartbeats 4000000 in
set_option maxRecDepth 100000 in
theorem c_Mod_keep (l : Launch) (dC : Nat → ClassId) (dI : Nat → Nat → Nat) (sz : Nat) (cB cI : ClassId) (hM ai aw ar al aL aD ac af ap an ax isz wn chn rn th : Nat) (X Ln Y RL RD : Nat → Nat) (pl i d : Nat) (hpl : pl < 50) (hi : i < 1000) (hL : Ln i ≤ 60) (hX : ∀ j, X j < 128) : Met l y_Mod_keep w_Mod_keep ({ frames := 0, cells := 0, slots := 0, locals := 0 }) (nw_Pw [.ref hM, .int (nI pl), .int (nI i), .int (nI d)] (dC, dI) nw_cls [(cB, .byte), (cI, .int)] [(hM, .inr (1, [.ref ai, .ref aw, .ref ar, .ref al, .ref aL, .ref aD, .ref ac, .ref af, .ref ap, .ref an, .ref ax, .int (nI isz), .int (nI wn), .int (nI chn), .int (nI rn), .int (nI th)])), (aw, nw_ai cB 60000 X), (al, nw_ai cI 1000 Ln), (ar, nw_ai cB 3000 Y), (aL, nw_ai cI 50 RL), (aD, nw_ai cI 50 RD)] sz) (va_Qv (fun _ : Unit => True) (nw_B (dC, dI) nw_cls (va_A [(hM, .inr (1, [.ref ai, .ref aw, .ref ar, .ref al, .ref aL, .ref aD, .ref ac, .ref af, .ref ap, .ref an, .ref ax, .int (nI isz), .int (nI wn), .int (nI chn), .int (nI rn), .int (nI th)])), (aw, nw_ai cB 60000 X), (al, nw_ai cI 1000 Ln), (ar, nw_ai cB 3000 Y), (aL, nw_ai cI 50 RL), (aD, nw_ai cI 50 RD)] sz) (fun _ : Unit => [(hM, .inr (1, [.ref ai, .ref aw, .ref ar, .ref al, .ref aL, .ref aD, .ref ac, .ref af, .ref ap, .ref an, .ref ax, .int (nI isz), .int (nI wn), .int (nI chn), .int (nI rn), .int (nI th)])), (aw, nw_ai cB 60000 X), (al, nw_ai cI 1000 Ln), (ar, nw_ai cB 3000 (va_cpy X Y (i * 60) (pl * 60) (Ln i))), (aL, nw_ai cI 50 (va_up RL pl (Ln i))), (aD, nw_ai cI 50 (va_up RD pl d))])) (va_A [(hM, .inr (1, [.ref ai, .ref aw, .ref ar, .ref al, .ref aL, .ref aD, .ref ac, .ref af, .ref ap, .ref an, .ref ax, .int (nI isz), .int (nI wn), .int (nI chn), .int (nI rn), .int (nI th)])), (aw, nw_ai cB 60000 X), (al, nw_ai cI 1000 Ln), (ar, nw_ai cB 3000 Y), (aL, nw_ai cI 50 RL), (aD, nw_ai cI 50 RD)] sz)) 0 0 (va_A [(hM, .inr (1, [.ref ai, .ref aw, .ref ar, .ref al, .ref aL, .ref aD, .ref ac, .ref af, .ref ap, .ref an, .ref ax, .int (nI isz), .int (nI wn), .int (nI chn), .int (nI rn), .int (nI th)])), (aw, nw_ai cB 60000 X), (al, nw_ai cI 1000 Ln), (ar, nw_ai cB 3000 Y), (aL, nw_ai cI 50 RL), (aD, nw_ai cI 50 RD)] sz) := by
  refine Met.ofW (cc := b_Mod_keep) (maxL := 5) (ret := none) (by decide) rfl ?_
  intro p e s m args below meth cd s₁ B hml hv0
  obtain ⟨rfl, hsz, hP, hK, hD0⟩ := hv0
  have hx := B.exec
  have hb := B.bytes
  have hr := B.returns
  have hts := atoms_spec (ws := w_Mod_keep) B.pre
  have hown : s.vm.findClass R_Mod = some m.cls := findClass_of_methodNamed B.named
  have hlocks := B.notSynchronized
  subst hsz
  have hD := hD0.self (sz := s.heap.size)
  generalize hAe : va_A [(hM, .inr (1, [.ref ai, .ref aw, .ref ar, .ref al, .ref aL, .ref aD, .ref ac, .ref af, .ref ap, .ref an, .ref ax, .int (nI isz), .int (nI wn), .int (nI chn), .int (nI rn), .int (nI th)])), (aw, nw_ai cB 60000 X), (al, nw_ai cI 1000 Ln), (ar, nw_ai cB 3000 Y), (aL, nw_ai cI 50 RL), (aD, nw_ai cI 50 RD)] s.heap.size = A at hD ⊢
  have hA : ∀ q : Nat, s.heap.size ≤ q → A q := fun q h => by rw [← hAe]; exact Or.inr h
  have hS : va_S A s.heap s.heap [] := va_S.rf
  have hl := lv_entry ([.ref hM, .int (nI pl), .int (nI i), .int (nI d)]) (n := 5) (Nat.le_of_ble_eq_true rfl)
  rw [lg_entry_eq]
  generalize (lg_sl ([.ref hM, .int (nI pl), .int (nI i), .int (nI d)]) ++ List.replicate (5 - (lg_sl ([.ref hM, .int (nI pl), .int (nI i), .int (nI d)])).length) Slot.unset).toArray = ls at hl ⊢
  have hl : lv_has ls 5 [(0, .ref hM), (1, .int (nI pl)), (2, .int (nI i)), (3, .int (nI d))] := hl
  refine lv_iconst (v := nI 0) hx hb d_Mod_keep_0 (by decide) ?_
  refine lv_istore hx hb d_Mod_keep_1 hl (by decide) rfl (fun ls hl => ?_)
  replace hl : lv_has ls 5 [(4, .int (nI 0)), (0, .ref hM), (1, .int (nI pl)), (2, .int (nI i)), (3, .int (nI d))] := hl
  refine nw_loopW (σ := Nat × (Nat → Nat)) (fun x => match x with | (k, f) => k ≤ Ln i ∧ ∀ x, f x = va_cpy X Y (i * 60) (pl * 60) k x) (fun x => match x with | (k, f) => [(4, .int (nI k)), (0, .ref hM), (1, .int (nI pl)), (2, .int (nI i)), (3, .int (nI d))]) (fun x => match x with | (k, f) => [(hM, .inr (1, [.ref ai, .ref aw, .ref ar, .ref al, .ref aL, .ref aD, .ref ac, .ref af, .ref ap, .ref an, .ref ax, .int (nI isz), .int (nI wn), .int (nI chn), .int (nI rn), .int (nI th)])), (aw, nw_ai cB 60000 X), (al, nw_ai cI 1000 Ln), (ar, nw_ai cB 3000 f), (aL, nw_ai cI 50 RL), (aD, nw_ai cI 50 RD)]) (fun x => match x with | (k, f) => Ln i - k) (fun x hI ih ls H locs hl hP hD hS => ?_) (0, Y) (⟨Nat.zero_le _, fun x => (nw_cpy_0 X Y _ _ x).symm⟩) hl hP hD hS
  obtain ⟨k, f⟩ := x
  replace hI : k ≤ Ln i ∧ ∀ x, f x = va_cpy X Y (i * 60) (pl * 60) k x := hI
  replace hl : lv_has ls 5 [(4, .int (nI k)), (0, .ref hM), (1, .int (nI pl)), (2, .int (nI i)), (3, .int (nI d))] := hl
  replace hP : va_P (dC, dI) nw_cls [(hM, .inr (1, [.ref ai, .ref aw, .ref ar, .ref al, .ref aL, .ref aD, .ref ac, .ref af, .ref ap, .ref an, .ref ax, .int (nI isz), .int (nI wn), .int (nI chn), .int (nI rn), .int (nI th)])), (aw, nw_ai cB 60000 X), (al, nw_ai cI 1000 Ln), (ar, nw_ai cB 3000 f), (aL, nw_ai cI 50 RL), (aD, nw_ai cI 50 RD)] H := hP
  replace hD : va_D A [(hM, .inr (1, [.ref ai, .ref aw, .ref ar, .ref al, .ref aL, .ref aD, .ref ac, .ref af, .ref ap, .ref an, .ref ax, .int (nI isz), .int (nI wn), .int (nI chn), .int (nI rn), .int (nI th)])), (aw, nw_ai cB 60000 X), (al, nw_ai cI 1000 Ln), (ar, nw_ai cB 3000 f), (aL, nw_ai cI 50 RL), (aD, nw_ai cI 50 RD)] := hD
  obtain ⟨hk, hf⟩ := hI
  refine lv_iload hx hb d_Mod_keep_3 (lv_at hl 0 rfl) ?_
  refine lv_aload_n hx hb d_Mod_keep_5 rfl (lv_at hl 1 rfl) ?_
  refine va_get (D := (dC, dI)) (ci := 1) (v := .ref al) (C := R_Mod) (T := F_Mod) (N := 16) hx hb hts hin_Mod hown hK hP 0 rfl rfl 3 (by decide) (hts _ (nw_mc 178 rfl)) (fun _ h9 => h9) rfl d_Mod_keep_6 ?_
  refine lv_iload_n hx hb d_Mod_keep_9 rfl (lv_at hl 3 rfl) ?_
  refine nw_iald hx hb hK hP 2 1 rfl rfl (k := i) (by omega) (by first | decide | omega) d_Mod_keep_10 ?_
  refine lv_icmp_ge hx hb d_Mod_keep_11 (tgt := 44) (by decide) (fun hc1 => ?_) (fun hc1 => ?_)
  · rw [nI_leI (by omega) (by omega)] at hc1
    obtain rfl : f = va_cpy X Y (i * 60) (pl * 60) (Ln i) := funext fun x => by rw [hf x, show k = Ln i by omega]
    replace hP : va_P (dC, dI) nw_cls [(hM, .inr (1, [.ref ai, .ref aw, .ref ar, .ref al, .ref aL, .ref aD, .ref ac, .ref af, .ref ap, .ref an, .ref ax, .int (nI isz), .int (nI wn), .int (nI chn), .int (nI rn), .int (nI th)])), (aw, nw_ai cB 60000 X), (al, nw_ai cI 1000 Ln), (ar, nw_ai cB 3000 (va_cpy X Y (i * 60) (pl * 60) (Ln i))), (aL, nw_ai cI 50 RL), (aD, nw_ai cI 50 RD)] H := hP
    replace hD : va_D A [(hM, .inr (1, [.ref ai, .ref aw, .ref ar, .ref al, .ref aL, .ref aD, .ref ac, .ref af, .ref ap, .ref an, .ref ax, .int (nI isz), .int (nI wn), .int (nI chn), .int (nI rn), .int (nI th)])), (aw, nw_ai cB 60000 X), (al, nw_ai cI 1000 Ln), (ar, nw_ai cB 3000 (va_cpy X Y (i * 60) (pl * 60) (Ln i))), (aL, nw_ai cI 50 RL), (aD, nw_ai cI 50 RD)] := hD
    refine lv_aload_n hx hb d_Mod_keep_44 rfl (lv_at hl 1 rfl) ?_
    refine va_get (D := (dC, dI)) (ci := 1) (v := .ref aL) (C := R_Mod) (T := F_Mod) (N := 16) hx hb hts hin_Mod hown hK hP 0 rfl rfl 4 (by decide) (hts _ (nw_mc 179 rfl)) (fun _ h9 => h9) rfl d_Mod_keep_45 ?_
    refine lv_iload_n hx hb d_Mod_keep_48 rfl (lv_at hl 2 rfl) ?_
    refine lv_aload_n hx hb d_Mod_keep_49 rfl (lv_at hl 1 rfl) ?_
    refine va_get (D := (dC, dI)) (ci := 1) (v := .ref al) (C := R_Mod) (T := F_Mod) (N := 16) hx hb hts hin_Mod hown hK hP 0 rfl rfl 3 (by decide) (hts _ (nw_mc 178 rfl)) (fun _ h9 => h9) rfl d_Mod_keep_50 ?_
    refine lv_iload_n hx hb d_Mod_keep_53 rfl (lv_at hl 3 rfl) ?_
    refine nw_iald hx hb hK hP 2 1 rfl rfl (k := i) (by omega) (by first | decide | omega) d_Mod_keep_54 ?_
    refine nw_iast hx hb hK hP hD hS 4 1 rfl rfl (k := pl) (v := (Ln i)) (by omega) (by first | decide | omega) d_Mod_keep_55 (fun H locs hP hD hS => ?_)
    replace hP : va_P (dC, dI) nw_cls [(hM, .inr (1, [.ref ai, .ref aw, .ref ar, .ref al, .ref aL, .ref aD, .ref ac, .ref af, .ref ap, .ref an, .ref ax, .int (nI isz), .int (nI wn), .int (nI chn), .int (nI rn), .int (nI th)])), (aw, nw_ai cB 60000 X), (al, nw_ai cI 1000 Ln), (ar, nw_ai cB 3000 (va_cpy X Y (i * 60) (pl * 60) (Ln i))), (aL, nw_ai cI 50 (va_up RL pl (Ln i))), (aD, nw_ai cI 50 RD)] H := hP
    replace hD : va_D A [(hM, .inr (1, [.ref ai, .ref aw, .ref ar, .ref al, .ref aL, .ref aD, .ref ac, .ref af, .ref ap, .ref an, .ref ax, .int (nI isz), .int (nI wn), .int (nI chn), .int (nI rn), .int (nI th)])), (aw, nw_ai cB 60000 X), (al, nw_ai cI 1000 Ln), (ar, nw_ai cB 3000 (va_cpy X Y (i * 60) (pl * 60) (Ln i))), (aL, nw_ai cI 50 (va_up RL pl (Ln i))), (aD, nw_ai cI 50 RD)] := hD
    refine lv_aload_n hx hb d_Mod_keep_56 rfl (lv_at hl 1 rfl) ?_
    refine va_get (D := (dC, dI)) (ci := 1) (v := .ref aD) (C := R_Mod) (T := F_Mod) (N := 16) hx hb hts hin_Mod hown hK hP 0 rfl rfl 5 (by decide) (hts _ (nw_mc 180 rfl)) (fun _ h9 => h9) rfl d_Mod_keep_57 ?_
    refine lv_iload_n hx hb d_Mod_keep_60 rfl (lv_at hl 2 rfl) ?_
    refine lv_iload_n hx hb d_Mod_keep_61 rfl (lv_at hl 4 rfl) ?_
    refine nw_iast hx hb hK hP hD hS 5 1 rfl rfl (k := pl) (v := d) (by omega) (by first | decide | omega) d_Mod_keep_62 (fun H locs hP hD hS => ?_)
    replace hP : va_P (dC, dI) nw_cls [(hM, .inr (1, [.ref ai, .ref aw, .ref ar, .ref al, .ref aL, .ref aD, .ref ac, .ref af, .ref ap, .ref an, .ref ax, .int (nI isz), .int (nI wn), .int (nI chn), .int (nI rn), .int (nI th)])), (aw, nw_ai cB 60000 X), (al, nw_ai cI 1000 Ln), (ar, nw_ai cB 3000 (va_cpy X Y (i * 60) (pl * 60) (Ln i))), (aL, nw_ai cI 50 (va_up RL pl (Ln i))), (aD, nw_ai cI 50 (va_up RD pl d))] H := hP
    replace hD : va_D A [(hM, .inr (1, [.ref ai, .ref aw, .ref ar, .ref al, .ref aL, .ref aD, .ref ac, .ref af, .ref ap, .ref an, .ref ax, .int (nI isz), .int (nI wn), .int (nI chn), .int (nI rn), .int (nI th)])), (aw, nw_ai cB 60000 X), (al, nw_ai cI 1000 Ln), (ar, nw_ai cB 3000 (va_cpy X Y (i * 60) (pl * 60) (Ln i))), (aL, nw_ai cI 50 (va_up RL pl (Ln i))), (aD, nw_ai cI 50 (va_up RD pl d))] := hD
    exact W.vret hx hb hr (fun t ht hW => ⟨⟨(), rfl, trivial, by rw [ht]; exact hP, hD⟩, hS.F ht⟩) hS.2.2 d_Mod_keep_63
  · rw [nI_leI (by omega) (by omega)] at hc1
    have hv2 := hX (i * 60 + k)
    refine lv_aload_n hx hb d_Mod_keep_14 rfl (lv_at hl 1 rfl) ?_
    refine va_get (D := (dC, dI)) (ci := 1) (v := .ref ar) (C := R_Mod) (T := F_Mod) (N := 16) hx hb hts hin_Mod hown hK hP 0 rfl rfl 2 (by decide) (hts _ (nw_mc 176 rfl)) (fun _ h9 => h9) rfl d_Mod_keep_15 ?_
    refine lv_iload_n hx hb d_Mod_keep_18 rfl (lv_at hl 2 rfl) ?_
    refine lv_bipush (v := nI 60) hx hb d_Mod_keep_19 (by decide) ?_
    refine lv_imul hx hb d_Mod_keep_21 ?_
    refine nw_ti (pk_mul pl 60) ?_
    refine lv_iload hx hb d_Mod_keep_22 (lv_at hl 0 rfl) ?_
    refine lv_iadd hx hb d_Mod_keep_24 ?_
    refine nw_ti (nI_add (pl * 60) k) ?_
    refine lv_aload_n hx hb d_Mod_keep_25 rfl (lv_at hl 1 rfl) ?_
    refine va_get (D := (dC, dI)) (ci := 1) (v := .ref aw) (C := R_Mod) (T := F_Mod) (N := 16) hx hb hts hin_Mod hown hK hP 0 rfl rfl 1 (by decide) (hts _ (nw_mc 175 rfl)) (fun _ h9 => h9) rfl d_Mod_keep_26 ?_
    refine lv_iload_n hx hb d_Mod_keep_29 rfl (lv_at hl 3 rfl) ?_
    refine lv_bipush (v := nI 60) hx hb d_Mod_keep_30 (by decide) ?_
    refine lv_imul hx hb d_Mod_keep_32 ?_
    refine nw_ti (pk_mul i 60) ?_
    refine lv_iload hx hb d_Mod_keep_33 (lv_at hl 0 rfl) ?_
    refine lv_iadd hx hb d_Mod_keep_35 ?_
    refine nw_ti (nI_add (i * 60) k) ?_
    refine nw_bald hx hb hK hP 1 0 rfl rfl (k := ((i * 60) + k)) (by omega) (by first | decide | omega) d_Mod_keep_36 ?_
    refine nw_bast hx hb hK hP hD hS 3 0 rfl rfl (k := ((pl * 60) + k)) (v := (X ((i * 60) + k))) (by omega) (by first | decide | omega) (by omega) d_Mod_keep_37 (fun H locs hP hD hS => ?_)
    replace hP : va_P (dC, dI) nw_cls [(hM, .inr (1, [.ref ai, .ref aw, .ref ar, .ref al, .ref aL, .ref aD, .ref ac, .ref af, .ref ap, .ref an, .ref ax, .int (nI isz), .int (nI wn), .int (nI chn), .int (nI rn), .int (nI th)])), (aw, nw_ai cB 60000 X), (al, nw_ai cI 1000 Ln), (ar, nw_ai cB 3000 (va_up f ((pl * 60) + k) (X ((i * 60) + k)))), (aL, nw_ai cI 50 RL), (aD, nw_ai cI 50 RD)] H := hP
    replace hD : va_D A [(hM, .inr (1, [.ref ai, .ref aw, .ref ar, .ref al, .ref aL, .ref aD, .ref ac, .ref af, .ref ap, .ref an, .ref ax, .int (nI isz), .int (nI wn), .int (nI chn), .int (nI rn), .int (nI th)])), (aw, nw_ai cB 60000 X), (al, nw_ai cI 1000 Ln), (ar, nw_ai cB 3000 (va_up f ((pl * 60) + k) (X ((i * 60) + k)))), (aL, nw_ai cI 50 RL), (aD, nw_ai cI 50 RD)] := hD
    refine lv_iinc (v := nI (k + 1)) hx hb d_Mod_keep_38 hl (k := 0) rfl (nI_add k 1) (by decide) rfl (fun ls hl => ?_)
    have hl : lv_has ls 5 [(4, .int (nI (k + 1))), (0, .ref hM), (1, .int (nI pl)), (2, .int (nI i)), (3, .int (nI d))] := hl
    refine lv_goto hx hb d_Mod_keep_41 (tgt := 3) (by decide) ?_
    exact ih (k + 1, va_up f ((pl * 60) + k) (X ((i * 60) + k))) (⟨by omega, nw_cpy_s hf rfl⟩) (show Ln i - (k + 1) < Ln i - k by omega) _ _ _ hl hP hD hS
