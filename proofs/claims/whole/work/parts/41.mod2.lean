set_option maxHeartbeats 4000000 in
set_option maxRecDepth 100000 in
theorem c_Mod_steps (l : Launch) (dC : Nat → ClassId) (dI : Nat → Nat → Nat) (sz : Nat) (cB cI : ClassId) (hM ai aw ar al aL aD ac af ap an ax isz wn chn rn th : Nat) (I X Ln ST : Nat → Nat) (i n : Nat) (hi : i < 1000) (hn : n ≤ 60) (hL : Ln i ≤ 60) (hX : ∀ j, X j < 128) (hI0 : ∀ j, I j < 128) : Met l y_Mod_steps w_Mod_steps ({ frames := 1, cells := 0, slots := 0, locals := 21 }) (nw_Pw [.ref hM, .int (nI i), .int (nI n)] (dC, dI) nw_cls [(cB, .byte), (cI, .int)] [(hM, .inr (1, [.ref ai, .ref aw, .ref ar, .ref al, .ref aL, .ref aD, .ref ac, .ref af, .ref ap, .ref an, .ref ax, .int (nI isz), .int (nI wn), .int (nI chn), .int (nI rn), .int (nI th)])), (ai, nw_ai cB 60 I), (aw, nw_ai cB 60000 X), (al, nw_ai cI 1000 Ln), (ap, nw_ai cI 3721 ST)] sz) (va_Qi (fun (r : Int32) (_ : Nat → Nat) => r = nI (nw_D (fun k => X (i * 60 + k)) I (Ln i) n)) (nw_B (dC, dI) nw_cls (va_A [(hM, .inr (1, [.ref ai, .ref aw, .ref ar, .ref al, .ref aL, .ref aD, .ref ac, .ref af, .ref ap, .ref an, .ref ax, .int (nI isz), .int (nI wn), .int (nI chn), .int (nI rn), .int (nI th)])), (ai, nw_ai cB 60 I), (aw, nw_ai cB 60000 X), (al, nw_ai cI 1000 Ln), (ap, nw_ai cI 3721 ST)] sz) (fun u => [(hM, .inr (1, [.ref ai, .ref aw, .ref ar, .ref al, .ref aL, .ref aD, .ref ac, .ref af, .ref ap, .ref an, .ref ax, .int (nI isz), .int (nI wn), .int (nI chn), .int (nI rn), .int (nI th)])), (ai, nw_ai cB 60 I), (aw, nw_ai cB 60000 X), (al, nw_ai cI 1000 Ln), (ap, nw_ai cI 3721 u)])) (va_A [(hM, .inr (1, [.ref ai, .ref aw, .ref ar, .ref al, .ref aL, .ref aD, .ref ac, .ref af, .ref ap, .ref an, .ref ax, .int (nI isz), .int (nI wn), .int (nI chn), .int (nI rn), .int (nI th)])), (ai, nw_ai cB 60 I), (aw, nw_ai cB 60000 X), (al, nw_ai cI 1000 Ln), (ap, nw_ai cI 3721 ST)] sz)) 0 0 (va_A [(hM, .inr (1, [.ref ai, .ref aw, .ref ar, .ref al, .ref aL, .ref aD, .ref ac, .ref af, .ref ap, .ref an, .ref ax, .int (nI isz), .int (nI wn), .int (nI chn), .int (nI rn), .int (nI th)])), (ai, nw_ai cB 60 I), (aw, nw_ai cB 60000 X), (al, nw_ai cI 1000 Ln), (ap, nw_ai cI 3721 ST)] sz) := by
  refine Met.ofW (cc := b_Mod_steps) (maxL := 9) (ret := (some .int)) (by decide) rfl ?_
  intro p e s m args below meth cd s₁ B hml hv0
  obtain ⟨rfl, hsz, hP, hK, hD0⟩ := hv0
  have hx := B.exec
  have hb := B.bytes
  have hr := B.returns
  have hts := atoms_spec (ws := w_Mod_steps) B.pre
  have hown : s.vm.findClass R_Mod = some m.cls := findClass_of_methodNamed B.named
  have hlocks := B.notSynchronized
  subst hsz
  have hD := hD0.self (sz := s.heap.size)
  generalize hAe : va_A [(hM, .inr (1, [.ref ai, .ref aw, .ref ar, .ref al, .ref aL, .ref aD, .ref ac, .ref af, .ref ap, .ref an, .ref ax, .int (nI isz), .int (nI wn), .int (nI chn), .int (nI rn), .int (nI th)])), (ai, nw_ai cB 60 I), (aw, nw_ai cB 60000 X), (al, nw_ai cI 1000 Ln), (ap, nw_ai cI 3721 ST)] s.heap.size = A at hD ⊢
  have hA : ∀ q : Nat, s.heap.size ≤ q → A q := fun q h => by rw [← hAe]; exact Or.inr h
  have hS : va_S A s.heap s.heap [] := va_S.rf
  have hl := lv_entry ([.ref hM, .int (nI i), .int (nI n)]) (n := 9) (Nat.le_of_ble_eq_true rfl)
  rw [lg_entry_eq]
  generalize (lg_sl ([.ref hM, .int (nI i), .int (nI n)]) ++ List.replicate (9 - (lg_sl ([.ref hM, .int (nI i), .int (nI n)])).length) Slot.unset).toArray = ls at hl ⊢
  have hl : lv_has ls 9 [(0, .ref hM), (1, .int (nI i)), (2, .int (nI n))] := hl
  refine lv_aload_n hx hb d_Mod_steps_0 rfl (lv_at hl 0 rfl) ?_
  refine va_get (D := (dC, dI)) (ci := 1) (v := .ref al) (C := R_Mod) (T := F_Mod) (N := 16) hx hb hts hin_Mod hown hK hP 0 rfl rfl 3 (by decide) (hts _ (nw_mc 178 rfl)) (fun _ h9 => h9) rfl d_Mod_steps_1 ?_
  refine lv_iload_n hx hb d_Mod_steps_4 rfl (lv_at hl 1 rfl) ?_
  refine nw_iald hx hb hK hP 3 1 rfl rfl (k := i) (by omega) (by first | decide | omega) d_Mod_steps_5 ?_
  refine lv_istore_n hx hb d_Mod_steps_6 rfl hl (by decide) rfl (fun ls hl => ?_)
  replace hl : lv_has ls 9 [(3, .int (nI (Ln i))), (0, .ref hM), (1, .int (nI i)), (2, .int (nI n))] := hl
  refine lv_iconst (v := nI 0) hx hb d_Mod_steps_7 (by decide) ?_
  refine lv_istore hx hb d_Mod_steps_8 hl (by decide) rfl (fun ls hl => ?_)
  replace hl : lv_has ls 9 [(4, .int (nI 0)), (3, .int (nI (Ln i))), (0, .ref hM), (1, .int (nI i)), (2, .int (nI n))] := hl
  refine nw_loopW (σ := Nat × (Nat → Nat)) (fun x => match x with | (a, f) => a ≤ Ln i + 1 ∧ (∀ p q, (p < a ∧ q ≤ n) ∨ (p = a ∧ q < 0) → f (p * 61 + q) = nw_D (fun k => X (i * 60 + k)) I p q)) (fun x => match x with | (a, f) => [(4, .int (nI a)), (3, .int (nI (Ln i))), (0, .ref hM), (1, .int (nI i)), (2, .int (nI n))]) (fun x => match x with | (a, f) => [(hM, .inr (1, [.ref ai, .ref aw, .ref ar, .ref al, .ref aL, .ref aD, .ref ac, .ref af, .ref ap, .ref an, .ref ax, .int (nI isz), .int (nI wn), .int (nI chn), .int (nI rn), .int (nI th)])), (ai, nw_ai cB 60 I), (aw, nw_ai cB 60000 X), (al, nw_ai cI 1000 Ln), (ap, nw_ai cI 3721 f)]) (fun x => match x with | (a, f) => Ln i + 1 - a) (fun x hA1 ih1 ls H locs hl hP hD hS => ?_) (0, ST) (⟨Nat.zero_le _, fun p q h => by omega⟩) hl hP hD hS
  obtain ⟨a, f⟩ := x
  replace hA1 : a ≤ Ln i + 1 ∧ (∀ p q, (p < a ∧ q ≤ n) ∨ (p = a ∧ q < 0) → f (p * 61 + q) = nw_D (fun k => X (i * 60 + k)) I p q) := hA1
  replace hl : lv_has ls 9 [(4, .int (nI a)), (3, .int (nI (Ln i))), (0, .ref hM), (1, .int (nI i)), (2, .int (nI n))] := hl
  replace hP : va_P (dC, dI) nw_cls [(hM, .inr (1, [.ref ai, .ref aw, .ref ar, .ref al, .ref aL, .ref aD, .ref ac, .ref af, .ref ap, .ref an, .ref ax, .int (nI isz), .int (nI wn), .int (nI chn), .int (nI rn), .int (nI th)])), (ai, nw_ai cB 60 I), (aw, nw_ai cB 60000 X), (al, nw_ai cI 1000 Ln), (ap, nw_ai cI 3721 f)] H := hP
  replace hD : va_D A [(hM, .inr (1, [.ref ai, .ref aw, .ref ar, .ref al, .ref aL, .ref aD, .ref ac, .ref af, .ref ap, .ref an, .ref ax, .int (nI isz), .int (nI wn), .int (nI chn), .int (nI rn), .int (nI th)])), (ai, nw_ai cB 60 I), (aw, nw_ai cB 60000 X), (al, nw_ai cI 1000 Ln), (ap, nw_ai cI 3721 f)] := hD
  obtain ⟨ha, hT⟩ := hA1
  refine lv_iload hx hb d_Mod_steps_10 (lv_at hl 0 rfl) ?_
  refine lv_iload_n hx hb d_Mod_steps_12 rfl (lv_at hl 1 rfl) ?_
  refine lv_icmp_gt hx hb d_Mod_steps_13 (tgt := 254) (by decide) (fun hc1 => ?_) (fun hc1 => ?_)
  · rw [nI_ltI (by omega) (by omega)] at hc1
    refine lv_aload_n hx hb d_Mod_steps_254 rfl (lv_at hl 2 rfl) ?_
    refine va_get (D := (dC, dI)) (ci := 1) (v := .ref ap) (C := R_Mod) (T := F_Mod) (N := 16) hx hb hts hin_Mod hown hK hP 0 rfl rfl 8 (by decide) (hts _ (nw_mc 183 rfl)) (fun _ h9 => h9) rfl d_Mod_steps_255 ?_
    refine lv_iload_n hx hb d_Mod_steps_258 rfl (lv_at hl 1 rfl) ?_
    refine lv_bipush (v := nI 61) hx hb d_Mod_steps_259 (by decide) ?_
    refine lv_imul hx hb d_Mod_steps_261 ?_
    refine nw_ti (pk_mul (Ln i) 61) ?_
    refine lv_iload_n hx hb d_Mod_steps_262 rfl (lv_at hl 4 rfl) ?_
    refine lv_iadd hx hb d_Mod_steps_263 ?_
    refine nw_ti (nI_add ((Ln i) * 61) n) ?_
    have hres := hT (Ln i) n (Or.inl ⟨by omega, Nat.le_refl _⟩)
    refine nw_iald hx hb hK hP 4 1 rfl rfl (k := (((Ln i) * 61) + n)) (by omega) (by first | decide | omega) d_Mod_steps_264 ?_
    exact W.iret (v := nI (f (((Ln i) * 61) + n))) hx hb hr (fun t ht hW => ⟨⟨_, f, rfl, congrArg nI hres, by rw [ht]; exact hP, hD⟩, hS.F ht⟩) hS.2.2 d_Mod_steps_265
  · rw [nI_ltI (by omega) (by omega)] at hc1
    refine lv_iconst (v := nI 0) hx hb d_Mod_steps_16 (by decide) ?_
    refine lv_istore hx hb d_Mod_steps_17 hl (by decide) rfl (fun ls hl => ?_)
    replace hl : lv_has ls 9 [(5, .int (nI 0)), (4, .int (nI a)), (3, .int (nI (Ln i))), (0, .ref hM), (1, .int (nI i)), (2, .int (nI n))] := hl
    refine nw_loopW (σ := Nat × (Nat → Nat)) (fun x => match x with | (b, f) => b ≤ n + 1 ∧ (∀ p q, (p < a ∧ q ≤ n) ∨ (p = a ∧ q < b) → f (p * 61 + q) = nw_D (fun k => X (i * 60 + k)) I p q)) (fun x => match x with | (b, f) => [(5, .int (nI b)), (4, .int (nI a)), (3, .int (nI (Ln i))), (0, .ref hM), (1, .int (nI i)), (2, .int (nI n))]) (fun x => match x with | (b, f) => [(hM, .inr (1, [.ref ai, .ref aw, .ref ar, .ref al, .ref aL, .ref aD, .ref ac, .ref af, .ref ap, .ref an, .ref ax, .int (nI isz), .int (nI wn), .int (nI chn), .int (nI rn), .int (nI th)])), (ai, nw_ai cB 60 I), (aw, nw_ai cB 60000 X), (al, nw_ai cI 1000 Ln), (ap, nw_ai cI 3721 f)]) (fun x => match x with | (b, f) => n + 1 - b) (fun x hB1 ih2 ls H locs hl hP hD hS => ?_) (0, f) (⟨Nat.zero_le _, hT⟩) hl hP hD hS
    obtain ⟨b, f⟩ := x
    replace hB1 : b ≤ n + 1 ∧ (∀ p q, (p < a ∧ q ≤ n) ∨ (p = a ∧ q < b) → f (p * 61 + q) = nw_D (fun k => X (i * 60 + k)) I p q) := hB1
    replace hl : lv_has ls 9 [(5, .int (nI b)), (4, .int (nI a)), (3, .int (nI (Ln i))), (0, .ref hM), (1, .int (nI i)), (2, .int (nI n))] := hl
    replace hP : va_P (dC, dI) nw_cls [(hM, .inr (1, [.ref ai, .ref aw, .ref ar, .ref al, .ref aL, .ref aD, .ref ac, .ref af, .ref ap, .ref an, .ref ax, .int (nI isz), .int (nI wn), .int (nI chn), .int (nI rn), .int (nI th)])), (ai, nw_ai cB 60 I), (aw, nw_ai cB 60000 X), (al, nw_ai cI 1000 Ln), (ap, nw_ai cI 3721 f)] H := hP
    replace hD : va_D A [(hM, .inr (1, [.ref ai, .ref aw, .ref ar, .ref al, .ref aL, .ref aD, .ref ac, .ref af, .ref ap, .ref an, .ref ax, .int (nI isz), .int (nI wn), .int (nI chn), .int (nI rn), .int (nI th)])), (ai, nw_ai cB 60 I), (aw, nw_ai cB 60000 X), (al, nw_ai cI 1000 Ln), (ap, nw_ai cI 3721 f)] := hD
    obtain ⟨hb1, hT⟩ := hB1
    refine lv_iload hx hb d_Mod_steps_19 (lv_at hl 0 rfl) ?_
    refine lv_iload_n hx hb d_Mod_steps_21 rfl (lv_at hl 5 rfl) ?_
    refine lv_icmp_gt hx hb d_Mod_steps_22 (tgt := 248) (by decide) (fun hc2 => ?_) (fun hc2 => ?_)
    · rw [nI_ltI (by omega) (by omega)] at hc2
      refine lv_iinc (v := nI (a + 1)) hx hb d_Mod_steps_248 hl (k := 1) rfl (nI_add a 1) (by decide) rfl (fun ls hl => ?_)
      have hl : lv_has ls 9 [(4, .int (nI (a + 1))), (5, .int (nI b)), (3, .int (nI (Ln i))), (0, .ref hM), (1, .int (nI i)), (2, .int (nI n))] := hl
      refine lv_goto hx hb d_Mod_steps_251 (tgt := 10) (by decide) ?_
      exact ih1 (a + 1, f) (⟨by omega, fun p q h => hT p q (by omega)⟩) (show Ln i + 1 - (a + 1) < Ln i + 1 - a by omega) _ _ _ (lv_sub hl [0, 2, 3, 4, 5] rfl) hP hD hS
    · rw [nI_ltI (by omega) (by omega)] at hc2
      refine lv_iload hx hb d_Mod_steps_25 (lv_at hl 1 rfl) ?_
      refine lv_if_ne hx hb d_Mod_steps_27 (tgt := 35) (by decide) (fun hc3 => ?_) (fun hc3 => ?_)
      · rw [nw_eq0 (by omega)] at hc3
        refine lv_iload hx hb d_Mod_steps_35 (lv_at hl 0 rfl) ?_
        refine lv_if_ne hx hb d_Mod_steps_37 (tgt := 45) (by decide) (fun hc4 => ?_) (fun hc4 => ?_)
        · rw [nw_eq0 (by omega)] at hc4
          have k1 := nw_D_add (fun k => X (i * 60 + k)) I (a - 1) b
          have k2 := nw_D_add (fun k => X (i * 60 + k)) I a (b - 1)
          have k3 := nw_D_add (fun k => X (i * 60 + k)) I (a - 1) (b - 1)
          have k4 := nw_D_add (fun k => X (i * 60 + k)) I (a - 2) (b - 2)
          refine lv_aload_n hx hb d_Mod_steps_45 rfl (lv_at hl 3 rfl) ?_
          refine va_get (D := (dC, dI)) (ci := 1) (v := .ref ap) (C := R_Mod) (T := F_Mod) (N := 16) hx hb hts hin_Mod hown hK hP 0 rfl rfl 8 (by decide) (hts _ (nw_mc 183 rfl)) (fun _ h9 => h9) rfl d_Mod_steps_46 ?_
          refine lv_iload hx hb d_Mod_steps_49 (lv_at hl 1 rfl) ?_
          refine lv_iconst (v := nI 1) hx hb d_Mod_steps_51 (by decide) ?_
          refine lv_isub hx hb d_Mod_steps_52 ?_
          refine nw_ti (pk_sub (a := a) (b := 1) (by omega)) ?_
          refine lv_bipush (v := nI 61) hx hb d_Mod_steps_53 (by decide) ?_
          refine lv_imul hx hb d_Mod_steps_55 ?_
          refine nw_ti (pk_mul (a - 1) 61) ?_
          refine lv_iload hx hb d_Mod_steps_56 (lv_at hl 0 rfl) ?_
          refine lv_iadd hx hb d_Mod_steps_58 ?_
          refine nw_ti (nI_add ((a - 1) * 61) b) ?_
          refine nw_iald hx hb hK hP 4 1 rfl rfl (k := (((a - 1) * 61) + b)) (by omega) (by first | decide | omega) d_Mod_steps_59 ?_
          refine nw_ti (y := nI (nw_D (fun k => X (i * 60 + k)) I (a - 1) b)) (congrArg nI (hT _ _ (Or.inl ⟨by omega, by omega⟩))) ?_
          refine lv_aload_n hx hb d_Mod_steps_60 rfl (lv_at hl 3 rfl) ?_
          refine va_get (D := (dC, dI)) (ci := 1) (v := .ref ap) (C := R_Mod) (T := F_Mod) (N := 16) hx hb hts hin_Mod hown hK hP 0 rfl rfl 8 (by decide) (hts _ (nw_mc 183 rfl)) (fun _ h9 => h9) rfl d_Mod_steps_61 ?_
          refine lv_iload hx hb d_Mod_steps_64 (lv_at hl 1 rfl) ?_
          refine lv_bipush (v := nI 61) hx hb d_Mod_steps_66 (by decide) ?_
          refine lv_imul hx hb d_Mod_steps_68 ?_
          refine nw_ti (pk_mul a 61) ?_
          refine lv_iload hx hb d_Mod_steps_69 (lv_at hl 0 rfl) ?_
          refine lv_iadd hx hb d_Mod_steps_71 ?_
          refine nw_ti (nI_add (a * 61) b) ?_
          refine lv_iconst (v := nI 1) hx hb d_Mod_steps_72 (by decide) ?_
          refine lv_isub hx hb d_Mod_steps_73 ?_
          refine nw_ti (pk_sub (a := ((a * 61) + b)) (b := 1) (by omega)) ?_
          refine nw_ti (y := nI (a * 61 + (b - 1))) (congrArg nI (show ((a * 61) + b) - 1 = a * 61 + (b - 1) by omega)) ?_
          refine nw_iald hx hb hK hP 4 1 rfl rfl (k := (a * 61 + (b - 1))) (by omega) (by first | decide | omega) d_Mod_steps_74 ?_
          refine nw_ti (y := nI (nw_D (fun k => X (i * 60 + k)) I a (b - 1))) (congrArg nI (hT _ _ (Or.inr ⟨rfl, by omega⟩))) ?_
          refine vp_callSi (va_Run.run (va_runS (As := [.int (nI (nw_D (fun k => X (i * 60 + k)) I (a - 1) b)), .int (nI (nw_D (fun k => X (i * 60 + k)) I a (b - 1)))]) (rest := []) ⟨hx, hb, hml, hown, hts⟩ (c_Mod_least l dC dI (nw_D (fun k => X (i * 60 + k)) I (a - 1) b) (nw_D (fun k => X (i * 60 + k)) I a (b - 1)) (by omega) (by omega)) (cwS 2 hts (nw_GS (nw_m 189 rfl) (nw_m 190 rfl) (nw_m 191 rfl) (nw_m 192 rfl)) rfl rfl rfl (by decide +kernel) ⟨Nat.le_of_ble_eq_true rfl, Nat.le_of_ble_eq_true rfl⟩) (nw_preS hK hP [] [] rfl rfl) rfl rfl hl.1 rfl (lv_room (Nat.le_of_ble_eq_true rfl)) d_Mod_steps_75 ⟨Nat.le_of_ble_eq_true rfl, Nat.le_of_ble_eq_true rfl⟩)) (fun r her => ?_)
          subst her
          refine lv_iconst (v := nI 1) hx hb d_Mod_steps_78 (by decide) ?_
          refine lv_iadd hx hb d_Mod_steps_79 ?_
          refine nw_ti (nI_add (min (nw_D (fun k => X (i * 60 + k)) I (a - 1) b) (nw_D (fun k => X (i * 60 + k)) I a (b - 1))) 1) ?_
          refine lv_istore hx hb d_Mod_steps_80 hl (by decide) rfl (fun ls hl => ?_)
          replace hl : lv_has ls 9 [(6, .int (nI ((min (nw_D (fun k => X (i * 60 + k)) I (a - 1) b) (nw_D (fun k => X (i * 60 + k)) I a (b - 1))) + 1))), (5, .int (nI b)), (4, .int (nI a)), (3, .int (nI (Ln i))), (0, .ref hM), (1, .int (nI i)), (2, .int (nI n))] := hl
          refine lv_iload hx hb d_Mod_steps_82 (lv_at hl 2 rfl) ?_
          refine lv_if_le hx hb d_Mod_steps_84 (tgt := 227) (by decide) (fun hc5 => ?_) (fun hc5 => ?_)
          · rw [nw_le0 (by omega)] at hc5
            omega
          · rw [nw_le0 (by omega)] at hc5
            refine lv_iload hx hb d_Mod_steps_87 (lv_at hl 1 rfl) ?_
            refine lv_if_le hx hb d_Mod_steps_89 (tgt := 227) (by decide) (fun hc6 => ?_) (fun hc6 => ?_)
            · rw [nw_le0 (by omega)] at hc6
              omega
            · rw [nw_le0 (by omega)] at hc6
              have hx1 := hX (i * 60 + (a - 1))
              have hx2 := hX (i * 60 + (a - 2))
              have hy1 := hI0 (b - 1)
              have hy2 := hI0 (b - 2)
              refine lv_aload_n hx hb d_Mod_steps_92 rfl (lv_at hl 4 rfl) ?_
              refine va_get (D := (dC, dI)) (ci := 1) (v := .ref aw) (C := R_Mod) (T := F_Mod) (N := 16) hx hb hts hin_Mod hown hK hP 0 rfl rfl 1 (by decide) (hts _ (nw_mc 175 rfl)) (fun _ h9 => h9) rfl d_Mod_steps_93 ?_
              refine lv_iload_n hx hb d_Mod_steps_96 rfl (lv_at hl 5 rfl) ?_
              refine lv_bipush (v := nI 60) hx hb d_Mod_steps_97 (by decide) ?_
              refine lv_imul hx hb d_Mod_steps_99 ?_
              refine nw_ti (pk_mul i 60) ?_
              refine lv_iload hx hb d_Mod_steps_100 (lv_at hl 2 rfl) ?_
              refine lv_iadd hx hb d_Mod_steps_102 ?_
              refine nw_ti (nI_add (i * 60) a) ?_
              refine lv_iconst (v := nI 1) hx hb d_Mod_steps_103 (by decide) ?_
              refine lv_isub hx hb d_Mod_steps_104 ?_
              refine nw_ti (pk_sub (a := ((i * 60) + a)) (b := 1) (by omega)) ?_
              refine nw_ti (y := nI (i * 60 + (a - 1))) (congrArg nI (show ((i * 60) + a) - 1 = i * 60 + (a - 1) by omega)) ?_
              refine nw_bald hx hb hK hP 2 0 rfl rfl (k := (i * 60 + (a - 1))) (by omega) (by first | decide | omega) d_Mod_steps_105 ?_
              refine lv_istore hx hb d_Mod_steps_106 hl (by decide) rfl (fun ls hl => ?_)
              replace hl : lv_has ls 9 [(7, .int (nI (X (i * 60 + (a - 1))))), (6, .int (nI ((min (nw_D (fun k => X (i * 60 + k)) I (a - 1) b) (nw_D (fun k => X (i * 60 + k)) I a (b - 1))) + 1))), (5, .int (nI b)), (4, .int (nI a)), (3, .int (nI (Ln i))), (0, .ref hM), (1, .int (nI i)), (2, .int (nI n))] := hl
              refine lv_aload_n hx hb d_Mod_steps_108 rfl (lv_at hl 5 rfl) ?_
              refine va_get (D := (dC, dI)) (ci := 1) (v := .ref ai) (C := R_Mod) (T := F_Mod) (N := 16) hx hb hts hin_Mod hown hK hP 0 rfl rfl 0 (by decide) (hts _ (nw_mc 173 rfl)) (fun _ h9 => h9) rfl d_Mod_steps_109 ?_
              refine lv_iload hx hb d_Mod_steps_112 (lv_at hl 2 rfl) ?_
              refine lv_iconst (v := nI 1) hx hb d_Mod_steps_114 (by decide) ?_
              refine lv_isub hx hb d_Mod_steps_115 ?_
              refine nw_ti (pk_sub (a := b) (b := 1) (by omega)) ?_
              refine nw_bald hx hb hK hP 1 0 rfl rfl (k := (b - 1)) (by omega) (by first | decide | omega) d_Mod_steps_116 ?_
              refine lv_istore hx hb d_Mod_steps_117 hl (by decide) rfl (fun ls hl => ?_)
              replace hl : lv_has ls 9 [(8, .int (nI (I (b - 1)))), (7, .int (nI (X (i * 60 + (a - 1))))), (6, .int (nI ((min (nw_D (fun k => X (i * 60 + k)) I (a - 1) b) (nw_D (fun k => X (i * 60 + k)) I a (b - 1))) + 1))), (5, .int (nI b)), (4, .int (nI a)), (3, .int (nI (Ln i))), (0, .ref hM), (1, .int (nI i)), (2, .int (nI n))] := hl
              refine lv_iload hx hb d_Mod_steps_119 (lv_at hl 2 rfl) ?_
              refine lv_aload_n hx hb d_Mod_steps_121 rfl (lv_at hl 6 rfl) ?_
              refine va_get (D := (dC, dI)) (ci := 1) (v := .ref ap) (C := R_Mod) (T := F_Mod) (N := 16) hx hb hts hin_Mod hown hK hP 0 rfl rfl 8 (by decide) (hts _ (nw_mc 183 rfl)) (fun _ h9 => h9) rfl d_Mod_steps_122 ?_
              refine lv_iload hx hb d_Mod_steps_125 (lv_at hl 4 rfl) ?_
              refine lv_iconst (v := nI 1) hx hb d_Mod_steps_127 (by decide) ?_
              refine lv_isub hx hb d_Mod_steps_128 ?_
              refine nw_ti (pk_sub (a := a) (b := 1) (by omega)) ?_
              refine lv_bipush (v := nI 61) hx hb d_Mod_steps_129 (by decide) ?_
              refine lv_imul hx hb d_Mod_steps_131 ?_
              refine nw_ti (pk_mul (a - 1) 61) ?_
              refine lv_iload hx hb d_Mod_steps_132 (lv_at hl 3 rfl) ?_
              refine lv_iadd hx hb d_Mod_steps_134 ?_
              refine nw_ti (nI_add ((a - 1) * 61) b) ?_
              refine lv_iconst (v := nI 1) hx hb d_Mod_steps_135 (by decide) ?_
              refine lv_isub hx hb d_Mod_steps_136 ?_
              refine nw_ti (pk_sub (a := (((a - 1) * 61) + b)) (b := 1) (by omega)) ?_
              refine nw_ti (y := nI ((a - 1) * 61 + (b - 1))) (congrArg nI (show (((a - 1) * 61) + b) - 1 = (a - 1) * 61 + (b - 1) by omega)) ?_
              refine nw_iald hx hb hK hP 4 1 rfl rfl (k := ((a - 1) * 61 + (b - 1))) (by omega) (by first | decide | omega) d_Mod_steps_137 ?_
              refine nw_ti (y := nI (nw_D (fun k => X (i * 60 + k)) I (a - 1) (b - 1))) (congrArg nI (hT _ _ (Or.inl ⟨by omega, by omega⟩))) ?_
              refine lv_iload hx hb d_Mod_steps_138 (lv_at hl 1 rfl) ?_
              refine lv_iload hx hb d_Mod_steps_140 (lv_at hl 0 rfl) ?_
              refine lv_icmp_ne hx hb d_Mod_steps_142 (tgt := 149) (by decide) (fun hc7 => ?_) (fun hc7 => ?_)
              · rw [nI_eq (by omega) (by omega)] at hc7
                refine lv_iconst (v := nI 1) hx hb d_Mod_steps_149 (by decide) ?_
                refine lv_iadd hx hb d_Mod_steps_150 ?_
                refine nw_ti (nI_add (nw_D (fun k => X (i * 60 + k)) I (a - 1) (b - 1)) 1) ?_
                refine vp_callSi (va_Run.run (va_runS (As := [.int (nI ((min (nw_D (fun k => X (i * 60 + k)) I (a - 1) b) (nw_D (fun k => X (i * 60 + k)) I a (b - 1))) + 1)), .int (nI ((nw_D (fun k => X (i * 60 + k)) I (a - 1) (b - 1)) + 1))]) (rest := []) ⟨hx, hb, hml, hown, hts⟩ (c_Mod_least l dC dI ((min (nw_D (fun k => X (i * 60 + k)) I (a - 1) b) (nw_D (fun k => X (i * 60 + k)) I a (b - 1))) + 1) ((nw_D (fun k => X (i * 60 + k)) I (a - 1) (b - 1)) + 1) (by omega) (by omega)) (cwS 2 hts (nw_GS (nw_m 189 rfl) (nw_m 190 rfl) (nw_m 191 rfl) (nw_m 192 rfl)) rfl rfl rfl (by decide +kernel) ⟨Nat.le_of_ble_eq_true rfl, Nat.le_of_ble_eq_true rfl⟩) (nw_preS hK hP [] [] rfl rfl) rfl rfl hl.1 rfl (lv_room (Nat.le_of_ble_eq_true rfl)) d_Mod_steps_151 ⟨Nat.le_of_ble_eq_true rfl, Nat.le_of_ble_eq_true rfl⟩)) (fun r her => ?_)
                subst her
                refine lv_istore hx hb d_Mod_steps_154 hl (by decide) rfl (fun ls hl => ?_)
                replace hl : lv_has ls 9 [(6, .int (nI (min ((min (nw_D (fun k => X (i * 60 + k)) I (a - 1) b) (nw_D (fun k => X (i * 60 + k)) I a (b - 1))) + 1) ((nw_D (fun k => X (i * 60 + k)) I (a - 1) (b - 1)) + 1)))), (8, .int (nI (I (b - 1)))), (7, .int (nI (X (i * 60 + (a - 1))))), (5, .int (nI b)), (4, .int (nI a)), (3, .int (nI (Ln i))), (0, .ref hM), (1, .int (nI i)), (2, .int (nI n))] := hl
                refine lv_iload hx hb d_Mod_steps_156 (lv_at hl 4 rfl) ?_
                refine lv_iconst (v := nI 1) hx hb d_Mod_steps_158 (by decide) ?_
                refine lv_icmp_le hx hb d_Mod_steps_159 (tgt := 227) (by decide) (fun hc8 => ?_) (fun hc8 => ?_)
                · rw [nI_leI (by omega) (by omega)] at hc8
                  refine lv_aload_n hx hb d_Mod_steps_227 rfl (lv_at hl 6 rfl) ?_
                  refine va_get (D := (dC, dI)) (ci := 1) (v := .ref ap) (C := R_Mod) (T := F_Mod) (N := 16) hx hb hts hin_Mod hown hK hP 0 rfl rfl 8 (by decide) (hts _ (nw_mc 183 rfl)) (fun _ h9 => h9) rfl d_Mod_steps_228 ?_
                  refine lv_iload hx hb d_Mod_steps_231 (lv_at hl 4 rfl) ?_
                  refine lv_bipush (v := nI 61) hx hb d_Mod_steps_233 (by decide) ?_
                  refine lv_imul hx hb d_Mod_steps_235 ?_
                  refine nw_ti (pk_mul a 61) ?_
                  refine lv_iload hx hb d_Mod_steps_236 (lv_at hl 3 rfl) ?_
                  refine lv_iadd hx hb d_Mod_steps_238 ?_
                  refine nw_ti (nI_add (a * 61) b) ?_
                  refine lv_iload hx hb d_Mod_steps_239 (lv_at hl 0 rfl) ?_
                  refine nw_ti (y := nI (nw_D (fun k => X (i * 60 + k)) I a b)) (congrArg nI (by rw [nw_D_rec (fun k => X (i * 60 + k)) I (a := a) (b := b) (by omega) (by omega), if_neg (by omega), if_neg hc7])) ?_
                  refine nw_iast hx hb hK hP hD hS 4 1 rfl rfl (k := ((a * 61) + b)) (v := (nw_D (fun k => X (i * 60 + k)) I a b)) (by omega) (by first | decide | omega) d_Mod_steps_241 (fun H locs hP hD hS => ?_)
                  replace hP : va_P (dC, dI) nw_cls [(hM, .inr (1, [.ref ai, .ref aw, .ref ar, .ref al, .ref aL, .ref aD, .ref ac, .ref af, .ref ap, .ref an, .ref ax, .int (nI isz), .int (nI wn), .int (nI chn), .int (nI rn), .int (nI th)])), (ai, nw_ai cB 60 I), (aw, nw_ai cB 60000 X), (al, nw_ai cI 1000 Ln), (ap, nw_ai cI 3721 (va_up f ((a * 61) + b) (nw_D (fun k => X (i * 60 + k)) I a b)))] H := hP
                  replace hD : va_D A [(hM, .inr (1, [.ref ai, .ref aw, .ref ar, .ref al, .ref aL, .ref aD, .ref ac, .ref af, .ref ap, .ref an, .ref ax, .int (nI isz), .int (nI wn), .int (nI chn), .int (nI rn), .int (nI th)])), (ai, nw_ai cB 60 I), (aw, nw_ai cB 60000 X), (al, nw_ai cI 1000 Ln), (ap, nw_ai cI 3721 (va_up f ((a * 61) + b) (nw_D (fun k => X (i * 60 + k)) I a b)))] := hD
                  refine lv_iinc (v := nI (b + 1)) hx hb d_Mod_steps_242 hl (k := 3) rfl (nI_add b 1) (by decide) rfl (fun ls hl => ?_)
                  have hl : lv_has ls 9 [(5, .int (nI (b + 1))), (6, .int (nI (min ((min (nw_D (fun k => X (i * 60 + k)) I (a - 1) b) (nw_D (fun k => X (i * 60 + k)) I a (b - 1))) + 1) ((nw_D (fun k => X (i * 60 + k)) I (a - 1) (b - 1)) + 1)))), (8, .int (nI (I (b - 1)))), (7, .int (nI (X (i * 60 + (a - 1))))), (4, .int (nI a)), (3, .int (nI (Ln i))), (0, .ref hM), (1, .int (nI i)), (2, .int (nI n))] := hl
                  refine lv_goto hx hb d_Mod_steps_245 (tgt := 19) (by decide) ?_
                  exact ih2 (b + 1, va_up f ((a * 61) + b) (nw_D (fun k => X (i * 60 + k)) I a b)) (⟨by omega, fun p q h => by
                    by_cases e : p * 61 + q = a * 61 + b
                    · have e1 : p = a := by omega
                      have e2 : q = b := by omega
                      rw [e1, e2]; exact va_up_self f _ _
                    · exact (va_up_ne f _ e).trans (hT p q (by omega))⟩) (show n + 1 - (b + 1) < n + 1 - b by omega) _ _ _ (lv_sub hl [0, 4, 5, 6, 7, 8] rfl) hP hD hS
                · rw [nI_leI (by omega) (by omega)] at hc8
                  refine lv_iload hx hb d_Mod_steps_162 (lv_at hl 3 rfl) ?_
                  refine lv_iconst (v := nI 1) hx hb d_Mod_steps_164 (by decide) ?_
                  refine lv_icmp_le hx hb d_Mod_steps_165 (tgt := 227) (by decide) (fun hc9 => ?_) (fun hc9 => ?_)
                  · rw [nI_leI (by omega) (by omega)] at hc9
                    refine lv_aload_n hx hb d_Mod_steps_227 rfl (lv_at hl 6 rfl) ?_
                    refine va_get (D := (dC, dI)) (ci := 1) (v := .ref ap) (C := R_Mod) (T := F_Mod) (N := 16) hx hb hts hin_Mod hown hK hP 0 rfl rfl 8 (by decide) (hts _ (nw_mc 183 rfl)) (fun _ h9 => h9) rfl d_Mod_steps_228 ?_
                    refine lv_iload hx hb d_Mod_steps_231 (lv_at hl 4 rfl) ?_
                    refine lv_bipush (v := nI 61) hx hb d_Mod_steps_233 (by decide) ?_
                    refine lv_imul hx hb d_Mod_steps_235 ?_
                    refine nw_ti (pk_mul a 61) ?_
                    refine lv_iload hx hb d_Mod_steps_236 (lv_at hl 3 rfl) ?_
                    refine lv_iadd hx hb d_Mod_steps_238 ?_
                    refine nw_ti (nI_add (a * 61) b) ?_
                    refine lv_iload hx hb d_Mod_steps_239 (lv_at hl 0 rfl) ?_
                    refine nw_ti (y := nI (nw_D (fun k => X (i * 60 + k)) I a b)) (congrArg nI (by rw [nw_D_rec (fun k => X (i * 60 + k)) I (a := a) (b := b) (by omega) (by omega), if_neg (by omega), if_neg hc7])) ?_
                    refine nw_iast hx hb hK hP hD hS 4 1 rfl rfl (k := ((a * 61) + b)) (v := (nw_D (fun k => X (i * 60 + k)) I a b)) (by omega) (by first | decide | omega) d_Mod_steps_241 (fun H locs hP hD hS => ?_)
                    replace hP : va_P (dC, dI) nw_cls [(hM, .inr (1, [.ref ai, .ref aw, .ref ar, .ref al, .ref aL, .ref aD, .ref ac, .ref af, .ref ap, .ref an, .ref ax, .int (nI isz), .int (nI wn), .int (nI chn), .int (nI rn), .int (nI th)])), (ai, nw_ai cB 60 I), (aw, nw_ai cB 60000 X), (al, nw_ai cI 1000 Ln), (ap, nw_ai cI 3721 (va_up f ((a * 61) + b) (nw_D (fun k => X (i * 60 + k)) I a b)))] H := hP
                    replace hD : va_D A [(hM, .inr (1, [.ref ai, .ref aw, .ref ar, .ref al, .ref aL, .ref aD, .ref ac, .ref af, .ref ap, .ref an, .ref ax, .int (nI isz), .int (nI wn), .int (nI chn), .int (nI rn), .int (nI th)])), (ai, nw_ai cB 60 I), (aw, nw_ai cB 60000 X), (al, nw_ai cI 1000 Ln), (ap, nw_ai cI 3721 (va_up f ((a * 61) + b) (nw_D (fun k => X (i * 60 + k)) I a b)))] := hD
                    refine lv_iinc (v := nI (b + 1)) hx hb d_Mod_steps_242 hl (k := 3) rfl (nI_add b 1) (by decide) rfl (fun ls hl => ?_)
                    have hl : lv_has ls 9 [(5, .int (nI (b + 1))), (6, .int (nI (min ((min (nw_D (fun k => X (i * 60 + k)) I (a - 1) b) (nw_D (fun k => X (i * 60 + k)) I a (b - 1))) + 1) ((nw_D (fun k => X (i * 60 + k)) I (a - 1) (b - 1)) + 1)))), (8, .int (nI (I (b - 1)))), (7, .int (nI (X (i * 60 + (a - 1))))), (4, .int (nI a)), (3, .int (nI (Ln i))), (0, .ref hM), (1, .int (nI i)), (2, .int (nI n))] := hl
                    refine lv_goto hx hb d_Mod_steps_245 (tgt := 19) (by decide) ?_
                    exact ih2 (b + 1, va_up f ((a * 61) + b) (nw_D (fun k => X (i * 60 + k)) I a b)) (⟨by omega, fun p q h => by
                      by_cases e : p * 61 + q = a * 61 + b
                      · have e1 : p = a := by omega
                        have e2 : q = b := by omega
                        rw [e1, e2]; exact va_up_self f _ _
                      · exact (va_up_ne f _ e).trans (hT p q (by omega))⟩) (show n + 1 - (b + 1) < n + 1 - b by omega) _ _ _ (lv_sub hl [0, 4, 5, 6, 7, 8] rfl) hP hD hS
                  · rw [nI_leI (by omega) (by omega)] at hc9
                    refine lv_iload hx hb d_Mod_steps_168 (lv_at hl 2 rfl) ?_
                    refine lv_aload_n hx hb d_Mod_steps_170 rfl (lv_at hl 6 rfl) ?_
                    refine va_get (D := (dC, dI)) (ci := 1) (v := .ref ai) (C := R_Mod) (T := F_Mod) (N := 16) hx hb hts hin_Mod hown hK hP 0 rfl rfl 0 (by decide) (hts _ (nw_mc 173 rfl)) (fun _ h9 => h9) rfl d_Mod_steps_171 ?_
                    refine lv_iload hx hb d_Mod_steps_174 (lv_at hl 3 rfl) ?_
                    refine lv_iconst (v := nI 2) hx hb d_Mod_steps_176 (by decide) ?_
                    refine lv_isub hx hb d_Mod_steps_177 ?_
                    refine nw_ti (pk_sub (a := b) (b := 2) (by omega)) ?_
                    refine nw_bald hx hb hK hP 1 0 rfl rfl (k := (b - 2)) (by omega) (by first | decide | omega) d_Mod_steps_178 ?_
                    refine lv_icmp_ne hx hb d_Mod_steps_179 (tgt := 227) (by decide) (fun hd1 => ?_) (fun hd1 => ?_)
                    · rw [nI_eq (by omega) (by omega)] at hd1
                      refine lv_aload_n hx hb d_Mod_steps_227 rfl (lv_at hl 6 rfl) ?_
                      refine va_get (D := (dC, dI)) (ci := 1) (v := .ref ap) (C := R_Mod) (T := F_Mod) (N := 16) hx hb hts hin_Mod hown hK hP 0 rfl rfl 8 (by decide) (hts _ (nw_mc 183 rfl)) (fun _ h9 => h9) rfl d_Mod_steps_228 ?_
                      refine lv_iload hx hb d_Mod_steps_231 (lv_at hl 4 rfl) ?_
                      refine lv_bipush (v := nI 61) hx hb d_Mod_steps_233 (by decide) ?_
                      refine lv_imul hx hb d_Mod_steps_235 ?_
                      refine nw_ti (pk_mul a 61) ?_
                      refine lv_iload hx hb d_Mod_steps_236 (lv_at hl 3 rfl) ?_
                      refine lv_iadd hx hb d_Mod_steps_238 ?_
                      refine nw_ti (nI_add (a * 61) b) ?_
                      refine lv_iload hx hb d_Mod_steps_239 (lv_at hl 0 rfl) ?_
                      refine nw_ti (y := nI (nw_D (fun k => X (i * 60 + k)) I a b)) (congrArg nI (by rw [nw_D_rec (fun k => X (i * 60 + k)) I (a := a) (b := b) (by omega) (by omega), if_neg (fun h => hd1 h.2.2.1), if_neg hc7])) ?_
                      refine nw_iast hx hb hK hP hD hS 4 1 rfl rfl (k := ((a * 61) + b)) (v := (nw_D (fun k => X (i * 60 + k)) I a b)) (by omega) (by first | decide | omega) d_Mod_steps_241 (fun H locs hP hD hS => ?_)
                      replace hP : va_P (dC, dI) nw_cls [(hM, .inr (1, [.ref ai, .ref aw, .ref ar, .ref al, .ref aL, .ref aD, .ref ac, .ref af, .ref ap, .ref an, .ref ax, .int (nI isz), .int (nI wn), .int (nI chn), .int (nI rn), .int (nI th)])), (ai, nw_ai cB 60 I), (aw, nw_ai cB 60000 X), (al, nw_ai cI 1000 Ln), (ap, nw_ai cI 3721 (va_up f ((a * 61) + b) (nw_D (fun k => X (i * 60 + k)) I a b)))] H := hP
                      replace hD : va_D A [(hM, .inr (1, [.ref ai, .ref aw, .ref ar, .ref al, .ref aL, .ref aD, .ref ac, .ref af, .ref ap, .ref an, .ref ax, .int (nI isz), .int (nI wn), .int (nI chn), .int (nI rn), .int (nI th)])), (ai, nw_ai cB 60 I), (aw, nw_ai cB 60000 X), (al, nw_ai cI 1000 Ln), (ap, nw_ai cI 3721 (va_up f ((a * 61) + b) (nw_D (fun k => X (i * 60 + k)) I a b)))] := hD
                      refine lv_iinc (v := nI (b + 1)) hx hb d_Mod_steps_242 hl (k := 3) rfl (nI_add b 1) (by decide) rfl (fun ls hl => ?_)
                      have hl : lv_has ls 9 [(5, .int (nI (b + 1))), (6, .int (nI (min ((min (nw_D (fun k => X (i * 60 + k)) I (a - 1) b) (nw_D (fun k => X (i * 60 + k)) I a (b - 1))) + 1) ((nw_D (fun k => X (i * 60 + k)) I (a - 1) (b - 1)) + 1)))), (8, .int (nI (I (b - 1)))), (7, .int (nI (X (i * 60 + (a - 1))))), (4, .int (nI a)), (3, .int (nI (Ln i))), (0, .ref hM), (1, .int (nI i)), (2, .int (nI n))] := hl
                      refine lv_goto hx hb d_Mod_steps_245 (tgt := 19) (by decide) ?_
                      exact ih2 (b + 1, va_up f ((a * 61) + b) (nw_D (fun k => X (i * 60 + k)) I a b)) (⟨by omega, fun p q h => by
                        by_cases e : p * 61 + q = a * 61 + b
                        · have e1 : p = a := by omega
                          have e2 : q = b := by omega
                          rw [e1, e2]; exact va_up_self f _ _
                        · exact (va_up_ne f _ e).trans (hT p q (by omega))⟩) (show n + 1 - (b + 1) < n + 1 - b by omega) _ _ _ (lv_sub hl [0, 4, 5, 6, 7, 8] rfl) hP hD hS
                    · rw [nI_eq (by omega) (by omega)] at hd1
                      refine lv_aload_n hx hb d_Mod_steps_182 rfl (lv_at hl 6 rfl) ?_
                      refine va_get (D := (dC, dI)) (ci := 1) (v := .ref aw) (C := R_Mod) (T := F_Mod) (N := 16) hx hb hts hin_Mod hown hK hP 0 rfl rfl 1 (by decide) (hts _ (nw_mc 175 rfl)) (fun _ h9 => h9) rfl d_Mod_steps_183 ?_
                      refine lv_iload_n hx hb d_Mod_steps_186 rfl (lv_at hl 7 rfl) ?_
                      refine lv_bipush (v := nI 60) hx hb d_Mod_steps_187 (by decide) ?_
                      refine lv_imul hx hb d_Mod_steps_189 ?_
                      refine nw_ti (pk_mul i 60) ?_
                      refine lv_iload hx hb d_Mod_steps_190 (lv_at hl 4 rfl) ?_
                      refine lv_iadd hx hb d_Mod_steps_192 ?_
                      refine nw_ti (nI_add (i * 60) a) ?_
                      refine lv_iconst (v := nI 2) hx hb d_Mod_steps_193 (by decide) ?_
                      refine lv_isub hx hb d_Mod_steps_194 ?_
                      refine nw_ti (pk_sub (a := ((i * 60) + a)) (b := 2) (by omega)) ?_
                      refine nw_ti (y := nI (i * 60 + (a - 2))) (congrArg nI (show ((i * 60) + a) - 2 = i * 60 + (a - 2) by omega)) ?_
                      refine nw_bald hx hb hK hP 2 0 rfl rfl (k := (i * 60 + (a - 2))) (by omega) (by first | decide | omega) d_Mod_steps_195 ?_
                      refine lv_iload hx hb d_Mod_steps_196 (lv_at hl 1 rfl) ?_
                      refine lv_icmp_ne hx hb d_Mod_steps_198 (tgt := 227) (by decide) (fun hd2 => ?_) (fun hd2 => ?_)
                      · rw [nI_eq (by omega) (by omega)] at hd2
                        refine lv_aload_n hx hb d_Mod_steps_227 rfl (lv_at hl 6 rfl) ?_
                        refine va_get (D := (dC, dI)) (ci := 1) (v := .ref ap) (C := R_Mod) (T := F_Mod) (N := 16) hx hb hts hin_Mod hown hK hP 0 rfl rfl 8 (by decide) (hts _ (nw_mc 183 rfl)) (fun _ h9 => h9) rfl d_Mod_steps_228 ?_
                        refine lv_iload hx hb d_Mod_steps_231 (lv_at hl 4 rfl) ?_
                        refine lv_bipush (v := nI 61) hx hb d_Mod_steps_233 (by decide) ?_
                        refine lv_imul hx hb d_Mod_steps_235 ?_
                        refine nw_ti (pk_mul a 61) ?_
                        refine lv_iload hx hb d_Mod_steps_236 (lv_at hl 3 rfl) ?_
                        refine lv_iadd hx hb d_Mod_steps_238 ?_
                        refine nw_ti (nI_add (a * 61) b) ?_
                        refine lv_iload hx hb d_Mod_steps_239 (lv_at hl 0 rfl) ?_
                        refine nw_ti (y := nI (nw_D (fun k => X (i * 60 + k)) I a b)) (congrArg nI (by rw [nw_D_rec (fun k => X (i * 60 + k)) I (a := a) (b := b) (by omega) (by omega), if_neg (fun h => hd2 h.2.2.2), if_neg hc7])) ?_
                        refine nw_iast hx hb hK hP hD hS 4 1 rfl rfl (k := ((a * 61) + b)) (v := (nw_D (fun k => X (i * 60 + k)) I a b)) (by omega) (by first | decide | omega) d_Mod_steps_241 (fun H locs hP hD hS => ?_)
                        replace hP : va_P (dC, dI) nw_cls [(hM, .inr (1, [.ref ai, .ref aw, .ref ar, .ref al, .ref aL, .ref aD, .ref ac, .ref af, .ref ap, .ref an, .ref ax, .int (nI isz), .int (nI wn), .int (nI chn), .int (nI rn), .int (nI th)])), (ai, nw_ai cB 60 I), (aw, nw_ai cB 60000 X), (al, nw_ai cI 1000 Ln), (ap, nw_ai cI 3721 (va_up f ((a * 61) + b) (nw_D (fun k => X (i * 60 + k)) I a b)))] H := hP
                        replace hD : va_D A [(hM, .inr (1, [.ref ai, .ref aw, .ref ar, .ref al, .ref aL, .ref aD, .ref ac, .ref af, .ref ap, .ref an, .ref ax, .int (nI isz), .int (nI wn), .int (nI chn), .int (nI rn), .int (nI th)])), (ai, nw_ai cB 60 I), (aw, nw_ai cB 60000 X), (al, nw_ai cI 1000 Ln), (ap, nw_ai cI 3721 (va_up f ((a * 61) + b) (nw_D (fun k => X (i * 60 + k)) I a b)))] := hD
                        refine lv_iinc (v := nI (b + 1)) hx hb d_Mod_steps_242 hl (k := 3) rfl (nI_add b 1) (by decide) rfl (fun ls hl => ?_)
                        have hl : lv_has ls 9 [(5, .int (nI (b + 1))), (6, .int (nI (min ((min (nw_D (fun k => X (i * 60 + k)) I (a - 1) b) (nw_D (fun k => X (i * 60 + k)) I a (b - 1))) + 1) ((nw_D (fun k => X (i * 60 + k)) I (a - 1) (b - 1)) + 1)))), (8, .int (nI (I (b - 1)))), (7, .int (nI (X (i * 60 + (a - 1))))), (4, .int (nI a)), (3, .int (nI (Ln i))), (0, .ref hM), (1, .int (nI i)), (2, .int (nI n))] := hl
                        refine lv_goto hx hb d_Mod_steps_245 (tgt := 19) (by decide) ?_
                        exact ih2 (b + 1, va_up f ((a * 61) + b) (nw_D (fun k => X (i * 60 + k)) I a b)) (⟨by omega, fun p q h => by
                          by_cases e : p * 61 + q = a * 61 + b
                          · have e1 : p = a := by omega
                            have e2 : q = b := by omega
                            rw [e1, e2]; exact va_up_self f _ _
                          · exact (va_up_ne f _ e).trans (hT p q (by omega))⟩) (show n + 1 - (b + 1) < n + 1 - b by omega) _ _ _ (lv_sub hl [0, 4, 5, 6, 7, 8] rfl) hP hD hS
                      · rw [nI_eq (by omega) (by omega)] at hd2
                        refine lv_iload hx hb d_Mod_steps_201 (lv_at hl 0 rfl) ?_
                        refine lv_aload_n hx hb d_Mod_steps_203 rfl (lv_at hl 6 rfl) ?_
                        refine va_get (D := (dC, dI)) (ci := 1) (v := .ref ap) (C := R_Mod) (T := F_Mod) (N := 16) hx hb hts hin_Mod hown hK hP 0 rfl rfl 8 (by decide) (hts _ (nw_mc 183 rfl)) (fun _ h9 => h9) rfl d_Mod_steps_204 ?_
                        refine lv_iload hx hb d_Mod_steps_207 (lv_at hl 4 rfl) ?_
                        refine lv_iconst (v := nI 2) hx hb d_Mod_steps_209 (by decide) ?_
                        refine lv_isub hx hb d_Mod_steps_210 ?_
                        refine nw_ti (pk_sub (a := a) (b := 2) (by omega)) ?_
                        refine lv_bipush (v := nI 61) hx hb d_Mod_steps_211 (by decide) ?_
                        refine lv_imul hx hb d_Mod_steps_213 ?_
                        refine nw_ti (pk_mul (a - 2) 61) ?_
                        refine lv_iload hx hb d_Mod_steps_214 (lv_at hl 3 rfl) ?_
                        refine lv_iadd hx hb d_Mod_steps_216 ?_
                        refine nw_ti (nI_add ((a - 2) * 61) b) ?_
                        refine lv_iconst (v := nI 2) hx hb d_Mod_steps_217 (by decide) ?_
                        refine lv_isub hx hb d_Mod_steps_218 ?_
                        refine nw_ti (pk_sub (a := (((a - 2) * 61) + b)) (b := 2) (by omega)) ?_
                        refine nw_ti (y := nI ((a - 2) * 61 + (b - 2))) (congrArg nI (show (((a - 2) * 61) + b) - 2 = (a - 2) * 61 + (b - 2) by omega)) ?_
                        refine nw_iald hx hb hK hP 4 1 rfl rfl (k := ((a - 2) * 61 + (b - 2))) (by omega) (by first | decide | omega) d_Mod_steps_219 ?_
                        refine nw_ti (y := nI (nw_D (fun k => X (i * 60 + k)) I (a - 2) (b - 2))) (congrArg nI (hT _ _ (Or.inl ⟨by omega, by omega⟩))) ?_
                        refine lv_iconst (v := nI 1) hx hb d_Mod_steps_220 (by decide) ?_
                        refine lv_iadd hx hb d_Mod_steps_221 ?_
                        refine nw_ti (nI_add (nw_D (fun k => X (i * 60 + k)) I (a - 2) (b - 2)) 1) ?_
                        refine vp_callSi (va_Run.run (va_runS (As := [.int (nI (min ((min (nw_D (fun k => X (i * 60 + k)) I (a - 1) b) (nw_D (fun k => X (i * 60 + k)) I a (b - 1))) + 1) ((nw_D (fun k => X (i * 60 + k)) I (a - 1) (b - 1)) + 1))), .int (nI ((nw_D (fun k => X (i * 60 + k)) I (a - 2) (b - 2)) + 1))]) (rest := []) ⟨hx, hb, hml, hown, hts⟩ (c_Mod_least l dC dI (min ((min (nw_D (fun k => X (i * 60 + k)) I (a - 1) b) (nw_D (fun k => X (i * 60 + k)) I a (b - 1))) + 1) ((nw_D (fun k => X (i * 60 + k)) I (a - 1) (b - 1)) + 1)) ((nw_D (fun k => X (i * 60 + k)) I (a - 2) (b - 2)) + 1) (by omega) (by omega)) (cwS 2 hts (nw_GS (nw_m 189 rfl) (nw_m 190 rfl) (nw_m 191 rfl) (nw_m 192 rfl)) rfl rfl rfl (by decide +kernel) ⟨Nat.le_of_ble_eq_true rfl, Nat.le_of_ble_eq_true rfl⟩) (nw_preS hK hP [] [] rfl rfl) rfl rfl hl.1 rfl (lv_room (Nat.le_of_ble_eq_true rfl)) d_Mod_steps_222 ⟨Nat.le_of_ble_eq_true rfl, Nat.le_of_ble_eq_true rfl⟩)) (fun r her => ?_)
                        subst her
                        refine lv_istore hx hb d_Mod_steps_225 hl (by decide) rfl (fun ls hl => ?_)
                        replace hl : lv_has ls 9 [(6, .int (nI (min (min ((min (nw_D (fun k => X (i * 60 + k)) I (a - 1) b) (nw_D (fun k => X (i * 60 + k)) I a (b - 1))) + 1) ((nw_D (fun k => X (i * 60 + k)) I (a - 1) (b - 1)) + 1)) ((nw_D (fun k => X (i * 60 + k)) I (a - 2) (b - 2)) + 1)))), (8, .int (nI (I (b - 1)))), (7, .int (nI (X (i * 60 + (a - 1))))), (5, .int (nI b)), (4, .int (nI a)), (3, .int (nI (Ln i))), (0, .ref hM), (1, .int (nI i)), (2, .int (nI n))] := hl
                        refine lv_aload_n hx hb d_Mod_steps_227 rfl (lv_at hl 6 rfl) ?_
                        refine va_get (D := (dC, dI)) (ci := 1) (v := .ref ap) (C := R_Mod) (T := F_Mod) (N := 16) hx hb hts hin_Mod hown hK hP 0 rfl rfl 8 (by decide) (hts _ (nw_mc 183 rfl)) (fun _ h9 => h9) rfl d_Mod_steps_228 ?_
                        refine lv_iload hx hb d_Mod_steps_231 (lv_at hl 4 rfl) ?_
                        refine lv_bipush (v := nI 61) hx hb d_Mod_steps_233 (by decide) ?_
                        refine lv_imul hx hb d_Mod_steps_235 ?_
                        refine nw_ti (pk_mul a 61) ?_
                        refine lv_iload hx hb d_Mod_steps_236 (lv_at hl 3 rfl) ?_
                        refine lv_iadd hx hb d_Mod_steps_238 ?_
                        refine nw_ti (nI_add (a * 61) b) ?_
                        refine lv_iload hx hb d_Mod_steps_239 (lv_at hl 0 rfl) ?_
                        refine nw_ti (y := nI (nw_D (fun k => X (i * 60 + k)) I a b)) (congrArg nI (by rw [nw_D_rec (fun k => X (i * 60 + k)) I (a := a) (b := b) (by omega) (by omega), if_pos ⟨by omega, by omega, hd1, hd2⟩, if_neg hc7])) ?_
                        refine nw_iast hx hb hK hP hD hS 4 1 rfl rfl (k := ((a * 61) + b)) (v := (nw_D (fun k => X (i * 60 + k)) I a b)) (by omega) (by first | decide | omega) d_Mod_steps_241 (fun H locs hP hD hS => ?_)
                        replace hP : va_P (dC, dI) nw_cls [(hM, .inr (1, [.ref ai, .ref aw, .ref ar, .ref al, .ref aL, .ref aD, .ref ac, .ref af, .ref ap, .ref an, .ref ax, .int (nI isz), .int (nI wn), .int (nI chn), .int (nI rn), .int (nI th)])), (ai, nw_ai cB 60 I), (aw, nw_ai cB 60000 X), (al, nw_ai cI 1000 Ln), (ap, nw_ai cI 3721 (va_up f ((a * 61) + b) (nw_D (fun k => X (i * 60 + k)) I a b)))] H := hP
                        replace hD : va_D A [(hM, .inr (1, [.ref ai, .ref aw, .ref ar, .ref al, .ref aL, .ref aD, .ref ac, .ref af, .ref ap, .ref an, .ref ax, .int (nI isz), .int (nI wn), .int (nI chn), .int (nI rn), .int (nI th)])), (ai, nw_ai cB 60 I), (aw, nw_ai cB 60000 X), (al, nw_ai cI 1000 Ln), (ap, nw_ai cI 3721 (va_up f ((a * 61) + b) (nw_D (fun k => X (i * 60 + k)) I a b)))] := hD
                        refine lv_iinc (v := nI (b + 1)) hx hb d_Mod_steps_242 hl (k := 3) rfl (nI_add b 1) (by decide) rfl (fun ls hl => ?_)
                        have hl : lv_has ls 9 [(5, .int (nI (b + 1))), (6, .int (nI (min (min ((min (nw_D (fun k => X (i * 60 + k)) I (a - 1) b) (nw_D (fun k => X (i * 60 + k)) I a (b - 1))) + 1) ((nw_D (fun k => X (i * 60 + k)) I (a - 1) (b - 1)) + 1)) ((nw_D (fun k => X (i * 60 + k)) I (a - 2) (b - 2)) + 1)))), (8, .int (nI (I (b - 1)))), (7, .int (nI (X (i * 60 + (a - 1))))), (4, .int (nI a)), (3, .int (nI (Ln i))), (0, .ref hM), (1, .int (nI i)), (2, .int (nI n))] := hl
                        refine lv_goto hx hb d_Mod_steps_245 (tgt := 19) (by decide) ?_
                        exact ih2 (b + 1, va_up f ((a * 61) + b) (nw_D (fun k => X (i * 60 + k)) I a b)) (⟨by omega, fun p q h => by
                          by_cases e : p * 61 + q = a * 61 + b
                          · have e1 : p = a := by omega
                            have e2 : q = b := by omega
                            rw [e1, e2]; exact va_up_self f _ _
                          · exact (va_up_ne f _ e).trans (hT p q (by omega))⟩) (show n + 1 - (b + 1) < n + 1 - b by omega) _ _ _ (lv_sub hl [0, 4, 5, 6, 7, 8] rfl) hP hD hS
              · rw [nI_eq (by omega) (by omega)] at hc7
                refine lv_iconst (v := nI 0) hx hb d_Mod_steps_145 (by decide) ?_
                refine lv_goto hx hb d_Mod_steps_146 (tgt := 150) (by decide) ?_
                refine lv_iadd hx hb d_Mod_steps_150 ?_
                refine nw_ti (nI_add (nw_D (fun k => X (i * 60 + k)) I (a - 1) (b - 1)) 0) ?_
                refine vp_callSi (va_Run.run (va_runS (As := [.int (nI ((min (nw_D (fun k => X (i * 60 + k)) I (a - 1) b) (nw_D (fun k => X (i * 60 + k)) I a (b - 1))) + 1)), .int (nI ((nw_D (fun k => X (i * 60 + k)) I (a - 1) (b - 1)) + 0))]) (rest := []) ⟨hx, hb, hml, hown, hts⟩ (c_Mod_least l dC dI ((min (nw_D (fun k => X (i * 60 + k)) I (a - 1) b) (nw_D (fun k => X (i * 60 + k)) I a (b - 1))) + 1) ((nw_D (fun k => X (i * 60 + k)) I (a - 1) (b - 1)) + 0) (by omega) (by omega)) (cwS 2 hts (nw_GS (nw_m 189 rfl) (nw_m 190 rfl) (nw_m 191 rfl) (nw_m 192 rfl)) rfl rfl rfl (by decide +kernel) ⟨Nat.le_of_ble_eq_true rfl, Nat.le_of_ble_eq_true rfl⟩) (nw_preS hK hP [] [] rfl rfl) rfl rfl hl.1 rfl (lv_room (Nat.le_of_ble_eq_true rfl)) d_Mod_steps_151 ⟨Nat.le_of_ble_eq_true rfl, Nat.le_of_ble_eq_true rfl⟩)) (fun r her => ?_)
                subst her
                refine lv_istore hx hb d_Mod_steps_154 hl (by decide) rfl (fun ls hl => ?_)
                replace hl : lv_has ls 9 [(6, .int (nI (min ((min (nw_D (fun k => X (i * 60 + k)) I (a - 1) b) (nw_D (fun k => X (i * 60 + k)) I a (b - 1))) + 1) ((nw_D (fun k => X (i * 60 + k)) I (a - 1) (b - 1)) + 0)))), (8, .int (nI (I (b - 1)))), (7, .int (nI (X (i * 60 + (a - 1))))), (5, .int (nI b)), (4, .int (nI a)), (3, .int (nI (Ln i))), (0, .ref hM), (1, .int (nI i)), (2, .int (nI n))] := hl
                refine lv_iload hx hb d_Mod_steps_156 (lv_at hl 4 rfl) ?_
                refine lv_iconst (v := nI 1) hx hb d_Mod_steps_158 (by decide) ?_
                refine lv_icmp_le hx hb d_Mod_steps_159 (tgt := 227) (by decide) (fun hc8 => ?_) (fun hc8 => ?_)
                · rw [nI_leI (by omega) (by omega)] at hc8
                  refine lv_aload_n hx hb d_Mod_steps_227 rfl (lv_at hl 6 rfl) ?_
                  refine va_get (D := (dC, dI)) (ci := 1) (v := .ref ap) (C := R_Mod) (T := F_Mod) (N := 16) hx hb hts hin_Mod hown hK hP 0 rfl rfl 8 (by decide) (hts _ (nw_mc 183 rfl)) (fun _ h9 => h9) rfl d_Mod_steps_228 ?_
                  refine lv_iload hx hb d_Mod_steps_231 (lv_at hl 4 rfl) ?_
                  refine lv_bipush (v := nI 61) hx hb d_Mod_steps_233 (by decide) ?_
                  refine lv_imul hx hb d_Mod_steps_235 ?_
                  refine nw_ti (pk_mul a 61) ?_
                  refine lv_iload hx hb d_Mod_steps_236 (lv_at hl 3 rfl) ?_
                  refine lv_iadd hx hb d_Mod_steps_238 ?_
                  refine nw_ti (nI_add (a * 61) b) ?_
                  refine lv_iload hx hb d_Mod_steps_239 (lv_at hl 0 rfl) ?_
                  refine nw_ti (y := nI (nw_D (fun k => X (i * 60 + k)) I a b)) (congrArg nI (by rw [nw_D_rec (fun k => X (i * 60 + k)) I (a := a) (b := b) (by omega) (by omega), if_neg (by omega), if_pos hc7])) ?_
                  refine nw_iast hx hb hK hP hD hS 4 1 rfl rfl (k := ((a * 61) + b)) (v := (nw_D (fun k => X (i * 60 + k)) I a b)) (by omega) (by first | decide | omega) d_Mod_steps_241 (fun H locs hP hD hS => ?_)
                  replace hP : va_P (dC, dI) nw_cls [(hM, .inr (1, [.ref ai, .ref aw, .ref ar, .ref al, .ref aL, .ref aD, .ref ac, .ref af, .ref ap, .ref an, .ref ax, .int (nI isz), .int (nI wn), .int (nI chn), .int (nI rn), .int (nI th)])), (ai, nw_ai cB 60 I), (aw, nw_ai cB 60000 X), (al, nw_ai cI 1000 Ln), (ap, nw_ai cI 3721 (va_up f ((a * 61) + b) (nw_D (fun k => X (i * 60 + k)) I a b)))] H := hP
                  replace hD : va_D A [(hM, .inr (1, [.ref ai, .ref aw, .ref ar, .ref al, .ref aL, .ref aD, .ref ac, .ref af, .ref ap, .ref an, .ref ax, .int (nI isz), .int (nI wn), .int (nI chn), .int (nI rn), .int (nI th)])), (ai, nw_ai cB 60 I), (aw, nw_ai cB 60000 X), (al, nw_ai cI 1000 Ln), (ap, nw_ai cI 3721 (va_up f ((a * 61) + b) (nw_D (fun k => X (i * 60 + k)) I a b)))] := hD
                  refine lv_iinc (v := nI (b + 1)) hx hb d_Mod_steps_242 hl (k := 3) rfl (nI_add b 1) (by decide) rfl (fun ls hl => ?_)
                  have hl : lv_has ls 9 [(5, .int (nI (b + 1))), (6, .int (nI (min ((min (nw_D (fun k => X (i * 60 + k)) I (a - 1) b) (nw_D (fun k => X (i * 60 + k)) I a (b - 1))) + 1) ((nw_D (fun k => X (i * 60 + k)) I (a - 1) (b - 1)) + 0)))), (8, .int (nI (I (b - 1)))), (7, .int (nI (X (i * 60 + (a - 1))))), (4, .int (nI a)), (3, .int (nI (Ln i))), (0, .ref hM), (1, .int (nI i)), (2, .int (nI n))] := hl
                  refine lv_goto hx hb d_Mod_steps_245 (tgt := 19) (by decide) ?_
                  exact ih2 (b + 1, va_up f ((a * 61) + b) (nw_D (fun k => X (i * 60 + k)) I a b)) (⟨by omega, fun p q h => by
                    by_cases e : p * 61 + q = a * 61 + b
                    · have e1 : p = a := by omega
                      have e2 : q = b := by omega
                      rw [e1, e2]; exact va_up_self f _ _
                    · exact (va_up_ne f _ e).trans (hT p q (by omega))⟩) (show n + 1 - (b + 1) < n + 1 - b by omega) _ _ _ (lv_sub hl [0, 4, 5, 6, 7, 8] rfl) hP hD hS
                · rw [nI_leI (by omega) (by omega)] at hc8
                  refine lv_iload hx hb d_Mod_steps_162 (lv_at hl 3 rfl) ?_
                  refine lv_iconst (v := nI 1) hx hb d_Mod_steps_164 (by decide) ?_
                  refine lv_icmp_le hx hb d_Mod_steps_165 (tgt := 227) (by decide) (fun hc9 => ?_) (fun hc9 => ?_)
                  · rw [nI_leI (by omega) (by omega)] at hc9
                    refine lv_aload_n hx hb d_Mod_steps_227 rfl (lv_at hl 6 rfl) ?_
                    refine va_get (D := (dC, dI)) (ci := 1) (v := .ref ap) (C := R_Mod) (T := F_Mod) (N := 16) hx hb hts hin_Mod hown hK hP 0 rfl rfl 8 (by decide) (hts _ (nw_mc 183 rfl)) (fun _ h9 => h9) rfl d_Mod_steps_228 ?_
                    refine lv_iload hx hb d_Mod_steps_231 (lv_at hl 4 rfl) ?_
                    refine lv_bipush (v := nI 61) hx hb d_Mod_steps_233 (by decide) ?_
                    refine lv_imul hx hb d_Mod_steps_235 ?_
                    refine nw_ti (pk_mul a 61) ?_
                    refine lv_iload hx hb d_Mod_steps_236 (lv_at hl 3 rfl) ?_
                    refine lv_iadd hx hb d_Mod_steps_238 ?_
                    refine nw_ti (nI_add (a * 61) b) ?_
                    refine lv_iload hx hb d_Mod_steps_239 (lv_at hl 0 rfl) ?_
                    refine nw_ti (y := nI (nw_D (fun k => X (i * 60 + k)) I a b)) (congrArg nI (by rw [nw_D_rec (fun k => X (i * 60 + k)) I (a := a) (b := b) (by omega) (by omega), if_neg (by omega), if_pos hc7])) ?_
                    refine nw_iast hx hb hK hP hD hS 4 1 rfl rfl (k := ((a * 61) + b)) (v := (nw_D (fun k => X (i * 60 + k)) I a b)) (by omega) (by first | decide | omega) d_Mod_steps_241 (fun H locs hP hD hS => ?_)
                    replace hP : va_P (dC, dI) nw_cls [(hM, .inr (1, [.ref ai, .ref aw, .ref ar, .ref al, .ref aL, .ref aD, .ref ac, .ref af, .ref ap, .ref an, .ref ax, .int (nI isz), .int (nI wn), .int (nI chn), .int (nI rn), .int (nI th)])), (ai, nw_ai cB 60 I), (aw, nw_ai cB 60000 X), (al, nw_ai cI 1000 Ln), (ap, nw_ai cI 3721 (va_up f ((a * 61) + b) (nw_D (fun k => X (i * 60 + k)) I a b)))] H := hP
                    replace hD : va_D A [(hM, .inr (1, [.ref ai, .ref aw, .ref ar, .ref al, .ref aL, .ref aD, .ref ac, .ref af, .ref ap, .ref an, .ref ax, .int (nI isz), .int (nI wn), .int (nI chn), .int (nI rn), .int (nI th)])), (ai, nw_ai cB 60 I), (aw, nw_ai cB 60000 X), (al, nw_ai cI 1000 Ln), (ap, nw_ai cI 3721 (va_up f ((a * 61) + b) (nw_D (fun k => X (i * 60 + k)) I a b)))] := hD
                    refine lv_iinc (v := nI (b + 1)) hx hb d_Mod_steps_242 hl (k := 3) rfl (nI_add b 1) (by decide) rfl (fun ls hl => ?_)
                    have hl : lv_has ls 9 [(5, .int (nI (b + 1))), (6, .int (nI (min ((min (nw_D (fun k => X (i * 60 + k)) I (a - 1) b) (nw_D (fun k => X (i * 60 + k)) I a (b - 1))) + 1) ((nw_D (fun k => X (i * 60 + k)) I (a - 1) (b - 1)) + 0)))), (8, .int (nI (I (b - 1)))), (7, .int (nI (X (i * 60 + (a - 1))))), (4, .int (nI a)), (3, .int (nI (Ln i))), (0, .ref hM), (1, .int (nI i)), (2, .int (nI n))] := hl
                    refine lv_goto hx hb d_Mod_steps_245 (tgt := 19) (by decide) ?_
                    exact ih2 (b + 1, va_up f ((a * 61) + b) (nw_D (fun k => X (i * 60 + k)) I a b)) (⟨by omega, fun p q h => by
                      by_cases e : p * 61 + q = a * 61 + b
                      · have e1 : p = a := by omega
                        have e2 : q = b := by omega
                        rw [e1, e2]; exact va_up_self f _ _
                      · exact (va_up_ne f _ e).trans (hT p q (by omega))⟩) (show n + 1 - (b + 1) < n + 1 - b by omega) _ _ _ (lv_sub hl [0, 4, 5, 6, 7, 8] rfl) hP hD hS
                  · rw [nI_leI (by omega) (by omega)] at hc9
                    refine lv_iload hx hb d_Mod_steps_168 (lv_at hl 2 rfl) ?_
                    refine lv_aload_n hx hb d_Mod_steps_170 rfl (lv_at hl 6 rfl) ?_
                    refine va_get (D := (dC, dI)) (ci := 1) (v := .ref ai) (C := R_Mod) (T := F_Mod) (N := 16) hx hb hts hin_Mod hown hK hP 0 rfl rfl 0 (by decide) (hts _ (nw_mc 173 rfl)) (fun _ h9 => h9) rfl d_Mod_steps_171 ?_
                    refine lv_iload hx hb d_Mod_steps_174 (lv_at hl 3 rfl) ?_
                    refine lv_iconst (v := nI 2) hx hb d_Mod_steps_176 (by decide) ?_
                    refine lv_isub hx hb d_Mod_steps_177 ?_
                    refine nw_ti (pk_sub (a := b) (b := 2) (by omega)) ?_
                    refine nw_bald hx hb hK hP 1 0 rfl rfl (k := (b - 2)) (by omega) (by first | decide | omega) d_Mod_steps_178 ?_
                    refine lv_icmp_ne hx hb d_Mod_steps_179 (tgt := 227) (by decide) (fun hd1 => ?_) (fun hd1 => ?_)
                    · rw [nI_eq (by omega) (by omega)] at hd1
                      refine lv_aload_n hx hb d_Mod_steps_227 rfl (lv_at hl 6 rfl) ?_
                      refine va_get (D := (dC, dI)) (ci := 1) (v := .ref ap) (C := R_Mod) (T := F_Mod) (N := 16) hx hb hts hin_Mod hown hK hP 0 rfl rfl 8 (by decide) (hts _ (nw_mc 183 rfl)) (fun _ h9 => h9) rfl d_Mod_steps_228 ?_
                      refine lv_iload hx hb d_Mod_steps_231 (lv_at hl 4 rfl) ?_
                      refine lv_bipush (v := nI 61) hx hb d_Mod_steps_233 (by decide) ?_
                      refine lv_imul hx hb d_Mod_steps_235 ?_
                      refine nw_ti (pk_mul a 61) ?_
                      refine lv_iload hx hb d_Mod_steps_236 (lv_at hl 3 rfl) ?_
                      refine lv_iadd hx hb d_Mod_steps_238 ?_
                      refine nw_ti (nI_add (a * 61) b) ?_
                      refine lv_iload hx hb d_Mod_steps_239 (lv_at hl 0 rfl) ?_
                      refine nw_ti (y := nI (nw_D (fun k => X (i * 60 + k)) I a b)) (congrArg nI (by rw [nw_D_rec (fun k => X (i * 60 + k)) I (a := a) (b := b) (by omega) (by omega), if_neg (fun h => hd1 h.2.2.1), if_pos hc7])) ?_
                      refine nw_iast hx hb hK hP hD hS 4 1 rfl rfl (k := ((a * 61) + b)) (v := (nw_D (fun k => X (i * 60 + k)) I a b)) (by omega) (by first | decide | omega) d_Mod_steps_241 (fun H locs hP hD hS => ?_)
                      replace hP : va_P (dC, dI) nw_cls [(hM, .inr (1, [.ref ai, .ref aw, .ref ar, .ref al, .ref aL, .ref aD, .ref ac, .ref af, .ref ap, .ref an, .ref ax, .int (nI isz), .int (nI wn), .int (nI chn), .int (nI rn), .int (nI th)])), (ai, nw_ai cB 60 I), (aw, nw_ai cB 60000 X), (al, nw_ai cI 1000 Ln), (ap, nw_ai cI 3721 (va_up f ((a * 61) + b) (nw_D (fun k => X (i * 60 + k)) I a b)))] H := hP
                      replace hD : va_D A [(hM, .inr (1, [.ref ai, .ref aw, .ref ar, .ref al, .ref aL, .ref aD, .ref ac, .ref af, .ref ap, .ref an, .ref ax, .int (nI isz), .int (nI wn), .int (nI chn), .int (nI rn), .int (nI th)])), (ai, nw_ai cB 60 I), (aw, nw_ai cB 60000 X), (al, nw_ai cI 1000 Ln), (ap, nw_ai cI 3721 (va_up f ((a * 61) + b) (nw_D (fun k => X (i * 60 + k)) I a b)))] := hD
                      refine lv_iinc (v := nI (b + 1)) hx hb d_Mod_steps_242 hl (k := 3) rfl (nI_add b 1) (by decide) rfl (fun ls hl => ?_)
                      have hl : lv_has ls 9 [(5, .int (nI (b + 1))), (6, .int (nI (min ((min (nw_D (fun k => X (i * 60 + k)) I (a - 1) b) (nw_D (fun k => X (i * 60 + k)) I a (b - 1))) + 1) ((nw_D (fun k => X (i * 60 + k)) I (a - 1) (b - 1)) + 0)))), (8, .int (nI (I (b - 1)))), (7, .int (nI (X (i * 60 + (a - 1))))), (4, .int (nI a)), (3, .int (nI (Ln i))), (0, .ref hM), (1, .int (nI i)), (2, .int (nI n))] := hl
                      refine lv_goto hx hb d_Mod_steps_245 (tgt := 19) (by decide) ?_
                      exact ih2 (b + 1, va_up f ((a * 61) + b) (nw_D (fun k => X (i * 60 + k)) I a b)) (⟨by omega, fun p q h => by
                        by_cases e : p * 61 + q = a * 61 + b
                        · have e1 : p = a := by omega
                          have e2 : q = b := by omega
                          rw [e1, e2]; exact va_up_self f _ _
                        · exact (va_up_ne f _ e).trans (hT p q (by omega))⟩) (show n + 1 - (b + 1) < n + 1 - b by omega) _ _ _ (lv_sub hl [0, 4, 5, 6, 7, 8] rfl) hP hD hS
                    · rw [nI_eq (by omega) (by omega)] at hd1
                      refine lv_aload_n hx hb d_Mod_steps_182 rfl (lv_at hl 6 rfl) ?_
                      refine va_get (D := (dC, dI)) (ci := 1) (v := .ref aw) (C := R_Mod) (T := F_Mod) (N := 16) hx hb hts hin_Mod hown hK hP 0 rfl rfl 1 (by decide) (hts _ (nw_mc 175 rfl)) (fun _ h9 => h9) rfl d_Mod_steps_183 ?_
                      refine lv_iload_n hx hb d_Mod_steps_186 rfl (lv_at hl 7 rfl) ?_
                      refine lv_bipush (v := nI 60) hx hb d_Mod_steps_187 (by decide) ?_
                      refine lv_imul hx hb d_Mod_steps_189 ?_
                      refine nw_ti (pk_mul i 60) ?_
                      refine lv_iload hx hb d_Mod_steps_190 (lv_at hl 4 rfl) ?_
                      refine lv_iadd hx hb d_Mod_steps_192 ?_
                      refine nw_ti (nI_add (i * 60) a) ?_
                      refine lv_iconst (v := nI 2) hx hb d_Mod_steps_193 (by decide) ?_
                      refine lv_isub hx hb d_Mod_steps_194 ?_
                      refine nw_ti (pk_sub (a := ((i * 60) + a)) (b := 2) (by omega)) ?_
                      refine nw_ti (y := nI (i * 60 + (a - 2))) (congrArg nI (show ((i * 60) + a) - 2 = i * 60 + (a - 2) by omega)) ?_
                      refine nw_bald hx hb hK hP 2 0 rfl rfl (k := (i * 60 + (a - 2))) (by omega) (by first | decide | omega) d_Mod_steps_195 ?_
                      refine lv_iload hx hb d_Mod_steps_196 (lv_at hl 1 rfl) ?_
                      refine lv_icmp_ne hx hb d_Mod_steps_198 (tgt := 227) (by decide) (fun hd2 => ?_) (fun hd2 => ?_)
                      · rw [nI_eq (by omega) (by omega)] at hd2
                        refine lv_aload_n hx hb d_Mod_steps_227 rfl (lv_at hl 6 rfl) ?_
                        refine va_get (D := (dC, dI)) (ci := 1) (v := .ref ap) (C := R_Mod) (T := F_Mod) (N := 16) hx hb hts hin_Mod hown hK hP 0 rfl rfl 8 (by decide) (hts _ (nw_mc 183 rfl)) (fun _ h9 => h9) rfl d_Mod_steps_228 ?_
                        refine lv_iload hx hb d_Mod_steps_231 (lv_at hl 4 rfl) ?_
                        refine lv_bipush (v := nI 61) hx hb d_Mod_steps_233 (by decide) ?_
                        refine lv_imul hx hb d_Mod_steps_235 ?_
                        refine nw_ti (pk_mul a 61) ?_
                        refine lv_iload hx hb d_Mod_steps_236 (lv_at hl 3 rfl) ?_
                        refine lv_iadd hx hb d_Mod_steps_238 ?_
                        refine nw_ti (nI_add (a * 61) b) ?_
                        refine lv_iload hx hb d_Mod_steps_239 (lv_at hl 0 rfl) ?_
                        refine nw_ti (y := nI (nw_D (fun k => X (i * 60 + k)) I a b)) (congrArg nI (by rw [nw_D_rec (fun k => X (i * 60 + k)) I (a := a) (b := b) (by omega) (by omega), if_neg (fun h => hd2 h.2.2.2), if_pos hc7])) ?_
                        refine nw_iast hx hb hK hP hD hS 4 1 rfl rfl (k := ((a * 61) + b)) (v := (nw_D (fun k => X (i * 60 + k)) I a b)) (by omega) (by first | decide | omega) d_Mod_steps_241 (fun H locs hP hD hS => ?_)
                        replace hP : va_P (dC, dI) nw_cls [(hM, .inr (1, [.ref ai, .ref aw, .ref ar, .ref al, .ref aL, .ref aD, .ref ac, .ref af, .ref ap, .ref an, .ref ax, .int (nI isz), .int (nI wn), .int (nI chn), .int (nI rn), .int (nI th)])), (ai, nw_ai cB 60 I), (aw, nw_ai cB 60000 X), (al, nw_ai cI 1000 Ln), (ap, nw_ai cI 3721 (va_up f ((a * 61) + b) (nw_D (fun k => X (i * 60 + k)) I a b)))] H := hP
                        replace hD : va_D A [(hM, .inr (1, [.ref ai, .ref aw, .ref ar, .ref al, .ref aL, .ref aD, .ref ac, .ref af, .ref ap, .ref an, .ref ax, .int (nI isz), .int (nI wn), .int (nI chn), .int (nI rn), .int (nI th)])), (ai, nw_ai cB 60 I), (aw, nw_ai cB 60000 X), (al, nw_ai cI 1000 Ln), (ap, nw_ai cI 3721 (va_up f ((a * 61) + b) (nw_D (fun k => X (i * 60 + k)) I a b)))] := hD
                        refine lv_iinc (v := nI (b + 1)) hx hb d_Mod_steps_242 hl (k := 3) rfl (nI_add b 1) (by decide) rfl (fun ls hl => ?_)
                        have hl : lv_has ls 9 [(5, .int (nI (b + 1))), (6, .int (nI (min ((min (nw_D (fun k => X (i * 60 + k)) I (a - 1) b) (nw_D (fun k => X (i * 60 + k)) I a (b - 1))) + 1) ((nw_D (fun k => X (i * 60 + k)) I (a - 1) (b - 1)) + 0)))), (8, .int (nI (I (b - 1)))), (7, .int (nI (X (i * 60 + (a - 1))))), (4, .int (nI a)), (3, .int (nI (Ln i))), (0, .ref hM), (1, .int (nI i)), (2, .int (nI n))] := hl
                        refine lv_goto hx hb d_Mod_steps_245 (tgt := 19) (by decide) ?_
                        exact ih2 (b + 1, va_up f ((a * 61) + b) (nw_D (fun k => X (i * 60 + k)) I a b)) (⟨by omega, fun p q h => by
                          by_cases e : p * 61 + q = a * 61 + b
                          · have e1 : p = a := by omega
                            have e2 : q = b := by omega
                            rw [e1, e2]; exact va_up_self f _ _
                          · exact (va_up_ne f _ e).trans (hT p q (by omega))⟩) (show n + 1 - (b + 1) < n + 1 - b by omega) _ _ _ (lv_sub hl [0, 4, 5, 6, 7, 8] rfl) hP hD hS
                      · rw [nI_eq (by omega) (by omega)] at hd2
                        refine lv_iload hx hb d_Mod_steps_201 (lv_at hl 0 rfl) ?_
                        refine lv_aload_n hx hb d_Mod_steps_203 rfl (lv_at hl 6 rfl) ?_
                        refine va_get (D := (dC, dI)) (ci := 1) (v := .ref ap) (C := R_Mod) (T := F_Mod) (N := 16) hx hb hts hin_Mod hown hK hP 0 rfl rfl 8 (by decide) (hts _ (nw_mc 183 rfl)) (fun _ h9 => h9) rfl d_Mod_steps_204 ?_
                        refine lv_iload hx hb d_Mod_steps_207 (lv_at hl 4 rfl) ?_
                        refine lv_iconst (v := nI 2) hx hb d_Mod_steps_209 (by decide) ?_
                        refine lv_isub hx hb d_Mod_steps_210 ?_
                        refine nw_ti (pk_sub (a := a) (b := 2) (by omega)) ?_
                        refine lv_bipush (v := nI 61) hx hb d_Mod_steps_211 (by decide) ?_
                        refine lv_imul hx hb d_Mod_steps_213 ?_
                        refine nw_ti (pk_mul (a - 2) 61) ?_
                        refine lv_iload hx hb d_Mod_steps_214 (lv_at hl 3 rfl) ?_
                        refine lv_iadd hx hb d_Mod_steps_216 ?_
                        refine nw_ti (nI_add ((a - 2) * 61) b) ?_
                        refine lv_iconst (v := nI 2) hx hb d_Mod_steps_217 (by decide) ?_
                        refine lv_isub hx hb d_Mod_steps_218 ?_
                        refine nw_ti (pk_sub (a := (((a - 2) * 61) + b)) (b := 2) (by omega)) ?_
                        refine nw_ti (y := nI ((a - 2) * 61 + (b - 2))) (congrArg nI (show (((a - 2) * 61) + b) - 2 = (a - 2) * 61 + (b - 2) by omega)) ?_
                        refine nw_iald hx hb hK hP 4 1 rfl rfl (k := ((a - 2) * 61 + (b - 2))) (by omega) (by first | decide | omega) d_Mod_steps_219 ?_
                        refine nw_ti (y := nI (nw_D (fun k => X (i * 60 + k)) I (a - 2) (b - 2))) (congrArg nI (hT _ _ (Or.inl ⟨by omega, by omega⟩))) ?_
                        refine lv_iconst (v := nI 1) hx hb d_Mod_steps_220 (by decide) ?_
                        refine lv_iadd hx hb d_Mod_steps_221 ?_
                        refine nw_ti (nI_add (nw_D (fun k => X (i * 60 + k)) I (a - 2) (b - 2)) 1) ?_
                        refine vp_callSi (va_Run.run (va_runS (As := [.int (nI (min ((min (nw_D (fun k => X (i * 60 + k)) I (a - 1) b) (nw_D (fun k => X (i * 60 + k)) I a (b - 1))) + 1) ((nw_D (fun k => X (i * 60 + k)) I (a - 1) (b - 1)) + 0))), .int (nI ((nw_D (fun k => X (i * 60 + k)) I (a - 2) (b - 2)) + 1))]) (rest := []) ⟨hx, hb, hml, hown, hts⟩ (c_Mod_least l dC dI (min ((min (nw_D (fun k => X (i * 60 + k)) I (a - 1) b) (nw_D (fun k => X (i * 60 + k)) I a (b - 1))) + 1) ((nw_D (fun k => X (i * 60 + k)) I (a - 1) (b - 1)) + 0)) ((nw_D (fun k => X (i * 60 + k)) I (a - 2) (b - 2)) + 1) (by omega) (by omega)) (cwS 2 hts (nw_GS (nw_m 189 rfl) (nw_m 190 rfl) (nw_m 191 rfl) (nw_m 192 rfl)) rfl rfl rfl (by decide +kernel) ⟨Nat.le_of_ble_eq_true rfl, Nat.le_of_ble_eq_true rfl⟩) (nw_preS hK hP [] [] rfl rfl) rfl rfl hl.1 rfl (lv_room (Nat.le_of_ble_eq_true rfl)) d_Mod_steps_222 ⟨Nat.le_of_ble_eq_true rfl, Nat.le_of_ble_eq_true rfl⟩)) (fun r her => ?_)
                        subst her
                        refine lv_istore hx hb d_Mod_steps_225 hl (by decide) rfl (fun ls hl => ?_)
                        replace hl : lv_has ls 9 [(6, .int (nI (min (min ((min (nw_D (fun k => X (i * 60 + k)) I (a - 1) b) (nw_D (fun k => X (i * 60 + k)) I a (b - 1))) + 1) ((nw_D (fun k => X (i * 60 + k)) I (a - 1) (b - 1)) + 0)) ((nw_D (fun k => X (i * 60 + k)) I (a - 2) (b - 2)) + 1)))), (8, .int (nI (I (b - 1)))), (7, .int (nI (X (i * 60 + (a - 1))))), (5, .int (nI b)), (4, .int (nI a)), (3, .int (nI (Ln i))), (0, .ref hM), (1, .int (nI i)), (2, .int (nI n))] := hl
                        refine lv_aload_n hx hb d_Mod_steps_227 rfl (lv_at hl 6 rfl) ?_
                        refine va_get (D := (dC, dI)) (ci := 1) (v := .ref ap) (C := R_Mod) (T := F_Mod) (N := 16) hx hb hts hin_Mod hown hK hP 0 rfl rfl 8 (by decide) (hts _ (nw_mc 183 rfl)) (fun _ h9 => h9) rfl d_Mod_steps_228 ?_
                        refine lv_iload hx hb d_Mod_steps_231 (lv_at hl 4 rfl) ?_
                        refine lv_bipush (v := nI 61) hx hb d_Mod_steps_233 (by decide) ?_
                        refine lv_imul hx hb d_Mod_steps_235 ?_
                        refine nw_ti (pk_mul a 61) ?_
                        refine lv_iload hx hb d_Mod_steps_236 (lv_at hl 3 rfl) ?_
                        refine lv_iadd hx hb d_Mod_steps_238 ?_
                        refine nw_ti (nI_add (a * 61) b) ?_
                        refine lv_iload hx hb d_Mod_steps_239 (lv_at hl 0 rfl) ?_
                        refine nw_ti (y := nI (nw_D (fun k => X (i * 60 + k)) I a b)) (congrArg nI (by rw [nw_D_rec (fun k => X (i * 60 + k)) I (a := a) (b := b) (by omega) (by omega), if_pos ⟨by omega, by omega, hd1, hd2⟩, if_pos hc7])) ?_
                        refine nw_iast hx hb hK hP hD hS 4 1 rfl rfl (k := ((a * 61) + b)) (v := (nw_D (fun k => X (i * 60 + k)) I a b)) (by omega) (by first | decide | omega) d_Mod_steps_241 (fun H locs hP hD hS => ?_)
                        replace hP : va_P (dC, dI) nw_cls [(hM, .inr (1, [.ref ai, .ref aw, .ref ar, .ref al, .ref aL, .ref aD, .ref ac, .ref af, .ref ap, .ref an, .ref ax, .int (nI isz), .int (nI wn), .int (nI chn), .int (nI rn), .int (nI th)])), (ai, nw_ai cB 60 I), (aw, nw_ai cB 60000 X), (al, nw_ai cI 1000 Ln), (ap, nw_ai cI 3721 (va_up f ((a * 61) + b) (nw_D (fun k => X (i * 60 + k)) I a b)))] H := hP
                        replace hD : va_D A [(hM, .inr (1, [.ref ai, .ref aw, .ref ar, .ref al, .ref aL, .ref aD, .ref ac, .ref af, .ref ap, .ref an, .ref ax, .int (nI isz), .int (nI wn), .int (nI chn), .int (nI rn), .int (nI th)])), (ai, nw_ai cB 60 I), (aw, nw_ai cB 60000 X), (al, nw_ai cI 1000 Ln), (ap, nw_ai cI 3721 (va_up f ((a * 61) + b) (nw_D (fun k => X (i * 60 + k)) I a b)))] := hD
                        refine lv_iinc (v := nI (b + 1)) hx hb d_Mod_steps_242 hl (k := 3) rfl (nI_add b 1) (by decide) rfl (fun ls hl => ?_)
                        have hl : lv_has ls 9 [(5, .int (nI (b + 1))), (6, .int (nI (min (min ((min (nw_D (fun k => X (i * 60 + k)) I (a - 1) b) (nw_D (fun k => X (i * 60 + k)) I a (b - 1))) + 1) ((nw_D (fun k => X (i * 60 + k)) I (a - 1) (b - 1)) + 0)) ((nw_D (fun k => X (i * 60 + k)) I (a - 2) (b - 2)) + 1)))), (8, .int (nI (I (b - 1)))), (7, .int (nI (X (i * 60 + (a - 1))))), (4, .int (nI a)), (3, .int (nI (Ln i))), (0, .ref hM), (1, .int (nI i)), (2, .int (nI n))] := hl
                        refine lv_goto hx hb d_Mod_steps_245 (tgt := 19) (by decide) ?_
                        exact ih2 (b + 1, va_up f ((a * 61) + b) (nw_D (fun k => X (i * 60 + k)) I a b)) (⟨by omega, fun p q h => by
                          by_cases e : p * 61 + q = a * 61 + b
                          · have e1 : p = a := by omega
                            have e2 : q = b := by omega
                            rw [e1, e2]; exact va_up_self f _ _
                          · exact (va_up_ne f _ e).trans (hT p q (by omega))⟩) (show n + 1 - (b + 1) < n + 1 - b by omega) _ _ _ (lv_sub hl [0, 4, 5, 6, 7, 8] rfl) hP hD hS
        · rw [nw_eq0 (by omega)] at hc4
          refine lv_iload hx hb d_Mod_steps_40 (lv_at hl 1 rfl) ?_
          refine lv_goto hx hb d_Mod_steps_42 (tgt := 80) (by decide) ?_
          refine lv_istore hx hb d_Mod_steps_80 hl (by decide) rfl (fun ls hl => ?_)
          replace hl : lv_has ls 9 [(6, .int (nI a)), (5, .int (nI b)), (4, .int (nI a)), (3, .int (nI (Ln i))), (0, .ref hM), (1, .int (nI i)), (2, .int (nI n))] := hl
          refine lv_iload hx hb d_Mod_steps_82 (lv_at hl 2 rfl) ?_
          refine lv_if_le hx hb d_Mod_steps_84 (tgt := 227) (by decide) (fun hc5 => ?_) (fun hc5 => ?_)
          · rw [nw_le0 (by omega)] at hc5
            omega
          · rw [nw_le0 (by omega)] at hc5
            refine lv_iload hx hb d_Mod_steps_87 (lv_at hl 1 rfl) ?_
            refine lv_if_le hx hb d_Mod_steps_89 (tgt := 227) (by decide) (fun hc6 => ?_) (fun hc6 => ?_)
            · rw [nw_le0 (by omega)] at hc6
              refine lv_aload_n hx hb d_Mod_steps_227 rfl (lv_at hl 4 rfl) ?_
              refine va_get (D := (dC, dI)) (ci := 1) (v := .ref ap) (C := R_Mod) (T := F_Mod) (N := 16) hx hb hts hin_Mod hown hK hP 0 rfl rfl 8 (by decide) (hts _ (nw_mc 183 rfl)) (fun _ h9 => h9) rfl d_Mod_steps_228 ?_
              refine lv_iload hx hb d_Mod_steps_231 (lv_at hl 2 rfl) ?_
              refine lv_bipush (v := nI 61) hx hb d_Mod_steps_233 (by decide) ?_
              refine lv_imul hx hb d_Mod_steps_235 ?_
              refine nw_ti (pk_mul a 61) ?_
              refine lv_iload hx hb d_Mod_steps_236 (lv_at hl 1 rfl) ?_
              refine lv_iadd hx hb d_Mod_steps_238 ?_
              refine nw_ti (nI_add (a * 61) b) ?_
              refine lv_iload hx hb d_Mod_steps_239 (lv_at hl 0 rfl) ?_
              refine nw_ti (y := nI (nw_D (fun k => X (i * 60 + k)) I a b)) (congrArg nI (by rw [hc4, nw_D_i0])) ?_
              refine nw_iast hx hb hK hP hD hS 4 1 rfl rfl (k := ((a * 61) + b)) (v := (nw_D (fun k => X (i * 60 + k)) I a b)) (by omega) (by first | decide | omega) d_Mod_steps_241 (fun H locs hP hD hS => ?_)
              replace hP : va_P (dC, dI) nw_cls [(hM, .inr (1, [.ref ai, .ref aw, .ref ar, .ref al, .ref aL, .ref aD, .ref ac, .ref af, .ref ap, .ref an, .ref ax, .int (nI isz), .int (nI wn), .int (nI chn), .int (nI rn), .int (nI th)])), (ai, nw_ai cB 60 I), (aw, nw_ai cB 60000 X), (al, nw_ai cI 1000 Ln), (ap, nw_ai cI 3721 (va_up f ((a * 61) + b) (nw_D (fun k => X (i * 60 + k)) I a b)))] H := hP
              replace hD : va_D A [(hM, .inr (1, [.ref ai, .ref aw, .ref ar, .ref al, .ref aL, .ref aD, .ref ac, .ref af, .ref ap, .ref an, .ref ax, .int (nI isz), .int (nI wn), .int (nI chn), .int (nI rn), .int (nI th)])), (ai, nw_ai cB 60 I), (aw, nw_ai cB 60000 X), (al, nw_ai cI 1000 Ln), (ap, nw_ai cI 3721 (va_up f ((a * 61) + b) (nw_D (fun k => X (i * 60 + k)) I a b)))] := hD
              refine lv_iinc (v := nI (b + 1)) hx hb d_Mod_steps_242 hl (k := 1) rfl (nI_add b 1) (by decide) rfl (fun ls hl => ?_)
              have hl : lv_has ls 9 [(5, .int (nI (b + 1))), (6, .int (nI a)), (4, .int (nI a)), (3, .int (nI (Ln i))), (0, .ref hM), (1, .int (nI i)), (2, .int (nI n))] := hl
              refine lv_goto hx hb d_Mod_steps_245 (tgt := 19) (by decide) ?_
              exact ih2 (b + 1, va_up f ((a * 61) + b) (nw_D (fun k => X (i * 60 + k)) I a b)) (⟨by omega, fun p q h => by
                by_cases e : p * 61 + q = a * 61 + b
                · have e1 : p = a := by omega
                  have e2 : q = b := by omega
                  rw [e1, e2]; exact va_up_self f _ _
                · exact (va_up_ne f _ e).trans (hT p q (by omega))⟩) (show n + 1 - (b + 1) < n + 1 - b by omega) _ _ _ (lv_sub hl [0, 2, 3, 4, 5, 6] rfl) hP hD hS
            · rw [nw_le0 (by omega)] at hc6
              omega
      · rw [nw_eq0 (by omega)] at hc3
        refine lv_iload hx hb d_Mod_steps_30 (lv_at hl 0 rfl) ?_
        refine lv_goto hx hb d_Mod_steps_32 (tgt := 80) (by decide) ?_
        refine lv_istore hx hb d_Mod_steps_80 hl (by decide) rfl (fun ls hl => ?_)
        replace hl : lv_has ls 9 [(6, .int (nI b)), (5, .int (nI b)), (4, .int (nI a)), (3, .int (nI (Ln i))), (0, .ref hM), (1, .int (nI i)), (2, .int (nI n))] := hl
        refine lv_iload hx hb d_Mod_steps_82 (lv_at hl 2 rfl) ?_
        refine lv_if_le hx hb d_Mod_steps_84 (tgt := 227) (by decide) (fun hc4 => ?_) (fun hc4 => ?_)
        · rw [nw_le0 (by omega)] at hc4
          refine lv_aload_n hx hb d_Mod_steps_227 rfl (lv_at hl 4 rfl) ?_
          refine va_get (D := (dC, dI)) (ci := 1) (v := .ref ap) (C := R_Mod) (T := F_Mod) (N := 16) hx hb hts hin_Mod hown hK hP 0 rfl rfl 8 (by decide) (hts _ (nw_mc 183 rfl)) (fun _ h9 => h9) rfl d_Mod_steps_228 ?_
          refine lv_iload hx hb d_Mod_steps_231 (lv_at hl 2 rfl) ?_
          refine lv_bipush (v := nI 61) hx hb d_Mod_steps_233 (by decide) ?_
          refine lv_imul hx hb d_Mod_steps_235 ?_
          refine nw_ti (pk_mul a 61) ?_
          refine lv_iload hx hb d_Mod_steps_236 (lv_at hl 1 rfl) ?_
          refine lv_iadd hx hb d_Mod_steps_238 ?_
          refine nw_ti (nI_add (a * 61) b) ?_
          refine lv_iload hx hb d_Mod_steps_239 (lv_at hl 0 rfl) ?_
          refine nw_ti (y := nI (nw_D (fun k => X (i * 60 + k)) I a b)) (congrArg nI (by rw [hc3, nw_D_0])) ?_
          refine nw_iast hx hb hK hP hD hS 4 1 rfl rfl (k := ((a * 61) + b)) (v := (nw_D (fun k => X (i * 60 + k)) I a b)) (by omega) (by first | decide | omega) d_Mod_steps_241 (fun H locs hP hD hS => ?_)
          replace hP : va_P (dC, dI) nw_cls [(hM, .inr (1, [.ref ai, .ref aw, .ref ar, .ref al, .ref aL, .ref aD, .ref ac, .ref af, .ref ap, .ref an, .ref ax, .int (nI isz), .int (nI wn), .int (nI chn), .int (nI rn), .int (nI th)])), (ai, nw_ai cB 60 I), (aw, nw_ai cB 60000 X), (al, nw_ai cI 1000 Ln), (ap, nw_ai cI 3721 (va_up f ((a * 61) + b) (nw_D (fun k => X (i * 60 + k)) I a b)))] H := hP
          replace hD : va_D A [(hM, .inr (1, [.ref ai, .ref aw, .ref ar, .ref al, .ref aL, .ref aD, .ref ac, .ref af, .ref ap, .ref an, .ref ax, .int (nI isz), .int (nI wn), .int (nI chn), .int (nI rn), .int (nI th)])), (ai, nw_ai cB 60 I), (aw, nw_ai cB 60000 X), (al, nw_ai cI 1000 Ln), (ap, nw_ai cI 3721 (va_up f ((a * 61) + b) (nw_D (fun k => X (i * 60 + k)) I a b)))] := hD
          refine lv_iinc (v := nI (b + 1)) hx hb d_Mod_steps_242 hl (k := 1) rfl (nI_add b 1) (by decide) rfl (fun ls hl => ?_)
          have hl : lv_has ls 9 [(5, .int (nI (b + 1))), (6, .int (nI b)), (4, .int (nI a)), (3, .int (nI (Ln i))), (0, .ref hM), (1, .int (nI i)), (2, .int (nI n))] := hl
          refine lv_goto hx hb d_Mod_steps_245 (tgt := 19) (by decide) ?_
          exact ih2 (b + 1, va_up f ((a * 61) + b) (nw_D (fun k => X (i * 60 + k)) I a b)) (⟨by omega, fun p q h => by
            by_cases e : p * 61 + q = a * 61 + b
            · have e1 : p = a := by omega
              have e2 : q = b := by omega
              rw [e1, e2]; exact va_up_self f _ _
            · exact (va_up_ne f _ e).trans (hT p q (by omega))⟩) (show n + 1 - (b + 1) < n + 1 - b by omega) _ _ _ (lv_sub hl [0, 2, 3, 4, 5, 6] rfl) hP hD hS
        · rw [nw_le0 (by omega)] at hc4
          omega

set_option maxHeartbeats 4000000 in
set_option maxRecDepth 100000 in
theorem c_Mod_fits (l : Launch) (dC : Nat → ClassId) (dI : Nat → Nat → Nat) (sz : Nat) (cB cI cZ : ClassId) (hM ai aw ar al aL aD ac af ap an ax isz wn chn rn th : Nat) (I X Ln NO NE : Nat → Nat) (i n : Nat) (hi : i < 1000) (hn : n ≤ 60) (hL : Ln i ≤ 60) (hX : ∀ j, X j < 128) (hI0 : ∀ j, I j < 128) : Met l y_Mod_fits w_Mod_fits ({ frames := 0, cells := 0, slots := 0, locals := 0 }) (nw_Pw [.ref hM, .int (nI i), .int (nI n)] (dC, dI) nw_cls [(cB, .byte), (cI, .int), (cZ, .boolean)] [(hM, .inr (1, [.ref ai, .ref aw, .ref ar, .ref al, .ref aL, .ref aD, .ref ac, .ref af, .ref ap, .ref an, .ref ax, .int (nI isz), .int (nI wn), .int (nI chn), .int (nI rn), .int (nI th)])), (ai, nw_ai cB 60 I), (aw, nw_ai cB 60000 X), (al, nw_ai cI 1000 Ln), (an, nw_ai cZ 61 NO), (ax, nw_ai cZ 61 NE)] sz) (va_Qi (fun (r : Int32) (_ : (Nat → Nat) × (Nat → Nat)) => r = nI ((nw_M I (fun k => X (i * 60 + k)) (Ln i) n).toNat)) (nw_B (dC, dI) nw_cls (va_A [(hM, .inr (1, [.ref ai, .ref aw, .ref ar, .ref al, .ref aL, .ref aD, .ref ac, .ref af, .ref ap, .ref an, .ref ax, .int (nI isz), .int (nI wn), .int (nI chn), .int (nI rn), .int (nI th)])), (ai, nw_ai cB 60 I), (aw, nw_ai cB 60000 X), (al, nw_ai cI 1000 Ln), (an, nw_ai cZ 61 NO), (ax, nw_ai cZ 61 NE)] sz) (fun u => [(hM, .inr (1, [.ref ai, .ref aw, .ref ar, .ref al, .ref aL, .ref aD, .ref ac, .ref af, .ref ap, .ref an, .ref ax, .int (nI isz), .int (nI wn), .int (nI chn), .int (nI rn), .int (nI th)])), (ai, nw_ai cB 60 I), (aw, nw_ai cB 60000 X), (al, nw_ai cI 1000 Ln), (an, nw_ai cZ 61 u.1), (ax, nw_ai cZ 61 u.2)])) (va_A [(hM, .inr (1, [.ref ai, .ref aw, .ref ar, .ref al, .ref aL, .ref aD, .ref ac, .ref af, .ref ap, .ref an, .ref ax, .int (nI isz), .int (nI wn), .int (nI chn), .int (nI rn), .int (nI th)])), (ai, nw_ai cB 60 I), (aw, nw_ai cB 60000 X), (al, nw_ai cI 1000 Ln), (an, nw_ai cZ 61 NO), (ax, nw_ai cZ 61 NE)] sz)) 0 0 (va_A [(hM, .inr (1, [.ref ai, .ref aw, .ref ar, .ref al, .ref aL, .ref aD, .ref ac, .ref af, .ref ap, .ref an, .ref ax, .int (nI isz), .int (nI wn), .int (nI chn), .int (nI rn), .int (nI th)])), (ai, nw_ai cB 60 I), (aw, nw_ai cB 60000 X), (al, nw_ai cI 1000 Ln), (an, nw_ai cZ 61 NO), (ax, nw_ai cZ 61 NE)] sz) := by
  refine Met.ofW (cc := b_Mod_fits) (maxL := 7) (ret := (some .boolean)) (by decide) rfl ?_
  intro p e s m args below meth cd s₁ B hml hv0
  obtain ⟨rfl, hsz, hP, hK, hD0⟩ := hv0
  have hx := B.exec
  have hb := B.bytes
  have hr := B.returns
  have hts := atoms_spec (ws := w_Mod_fits) B.pre
  have hown : s.vm.findClass R_Mod = some m.cls := findClass_of_methodNamed B.named
  have hlocks := B.notSynchronized
  subst hsz
  have hD := hD0.self (sz := s.heap.size)
  generalize hAe : va_A [(hM, .inr (1, [.ref ai, .ref aw, .ref ar, .ref al, .ref aL, .ref aD, .ref ac, .ref af, .ref ap, .ref an, .ref ax, .int (nI isz), .int (nI wn), .int (nI chn), .int (nI rn), .int (nI th)])), (ai, nw_ai cB 60 I), (aw, nw_ai cB 60000 X), (al, nw_ai cI 1000 Ln), (an, nw_ai cZ 61 NO), (ax, nw_ai cZ 61 NE)] s.heap.size = A at hD ⊢
  have hA : ∀ q : Nat, s.heap.size ≤ q → A q := fun q h => by rw [← hAe]; exact Or.inr h
  have hS : va_S A s.heap s.heap [] := va_S.rf
  have hl := lv_entry ([.ref hM, .int (nI i), .int (nI n)]) (n := 7) (Nat.le_of_ble_eq_true rfl)
  rw [lg_entry_eq]
  generalize (lg_sl ([.ref hM, .int (nI i), .int (nI n)]) ++ List.replicate (7 - (lg_sl ([.ref hM, .int (nI i), .int (nI n)])).length) Slot.unset).toArray = ls at hl ⊢
  have hl : lv_has ls 7 [(0, .ref hM), (1, .int (nI i)), (2, .int (nI n))] := hl
  refine lv_aload_n hx hb d_Mod_fits_0 rfl (lv_at hl 0 rfl) ?_
  refine va_get (D := (dC, dI)) (ci := 1) (v := .ref an) (C := R_Mod) (T := F_Mod) (N := 16) hx hb hts hin_Mod hown hK hP 0 rfl rfl 9 (by decide) (hts _ (nw_mc 185 rfl)) (fun _ h9 => h9) rfl d_Mod_fits_1 ?_
  refine lv_iconst (v := nI 0) hx hb d_Mod_fits_4 (by decide) ?_
  refine lv_iconst (v := nI 1) hx hb d_Mod_fits_5 (by decide) ?_
  refine nw_zast hx hb hK hP hD hS 4 2 rfl rfl (k := 0) (v := 1) (by omega) (by first | decide | omega) (by omega) d_Mod_fits_6 (fun H locs hP hD hS => ?_)
  replace hP : va_P (dC, dI) nw_cls [(hM, .inr (1, [.ref ai, .ref aw, .ref ar, .ref al, .ref aL, .ref aD, .ref ac, .ref af, .ref ap, .ref an, .ref ax, .int (nI isz), .int (nI wn), .int (nI chn), .int (nI rn), .int (nI th)])), (ai, nw_ai cB 60 I), (aw, nw_ai cB 60000 X), (al, nw_ai cI 1000 Ln), (an, nw_ai cZ 61 (va_up NO 0 1)), (ax, nw_ai cZ 61 NE)] H := hP
  replace hD : va_D A [(hM, .inr (1, [.ref ai, .ref aw, .ref ar, .ref al, .ref aL, .ref aD, .ref ac, .ref af, .ref ap, .ref an, .ref ax, .int (nI isz), .int (nI wn), .int (nI chn), .int (nI rn), .int (nI th)])), (ai, nw_ai cB 60 I), (aw, nw_ai cB 60000 X), (al, nw_ai cI 1000 Ln), (an, nw_ai cZ 61 (va_up NO 0 1)), (ax, nw_ai cZ 61 NE)] := hD
  refine lv_iconst (v := nI 1) hx hb d_Mod_fits_7 (by decide) ?_
  refine lv_istore_n hx hb d_Mod_fits_8 rfl hl (by decide) rfl (fun ls hl => ?_)
  replace hl : lv_has ls 7 [(3, .int (nI 1)), (0, .ref hM), (1, .int (nI i)), (2, .int (nI n))] := hl
  refine nw_loopW (σ := Nat × (Nat → Nat)) (fun x => match x with | (j, f) => 1 ≤ j ∧ j ≤ n + 1 ∧ ∀ t, t < j → f t = (nw_M I (fun k => X (i * 60 + k)) 0 t).toNat) (fun x => match x with | (j, f) => [(3, .int (nI j)), (0, .ref hM), (1, .int (nI i)), (2, .int (nI n))]) (fun x => match x with | (j, f) => [(hM, .inr (1, [.ref ai, .ref aw, .ref ar, .ref al, .ref aL, .ref aD, .ref ac, .ref af, .ref ap, .ref an, .ref ax, .int (nI isz), .int (nI wn), .int (nI chn), .int (nI rn), .int (nI th)])), (ai, nw_ai cB 60 I), (aw, nw_ai cB 60000 X), (al, nw_ai cI 1000 Ln), (an, nw_ai cZ 61 f), (ax, nw_ai cZ 61 NE)]) (fun x => match x with | (j, f) => n + 1 - j) (fun x hA1 ih1 ls H locs hl hP hD hS => ?_) (1, va_up NO 0 1) (⟨Nat.le_refl _, by omega, fun t h => by rw [show t = 0 by omega, va_up_self, nw_M_00]; rfl⟩) hl hP hD hS
  obtain ⟨j, f⟩ := x
  replace hA1 : 1 ≤ j ∧ j ≤ n + 1 ∧ ∀ t, t < j → f t = (nw_M I (fun k => X (i * 60 + k)) 0 t).toNat := hA1
  replace hl : lv_has ls 7 [(3, .int (nI j)), (0, .ref hM), (1, .int (nI i)), (2, .int (nI n))] := hl
  replace hP : va_P (dC, dI) nw_cls [(hM, .inr (1, [.ref ai, .ref aw, .ref ar, .ref al, .ref aL, .ref aD, .ref ac, .ref af, .ref ap, .ref an, .ref ax, .int (nI isz), .int (nI wn), .int (nI chn), .int (nI rn), .int (nI th)])), (ai, nw_ai cB 60 I), (aw, nw_ai cB 60000 X), (al, nw_ai cI 1000 Ln), (an, nw_ai cZ 61 f), (ax, nw_ai cZ 61 NE)] H := hP
  replace hD : va_D A [(hM, .inr (1, [.ref ai, .ref aw, .ref ar, .ref al, .ref aL, .ref aD, .ref ac, .ref af, .ref ap, .ref an, .ref ax, .int (nI isz), .int (nI wn), .int (nI chn), .int (nI rn), .int (nI th)])), (ai, nw_ai cB 60 I), (aw, nw_ai cB 60000 X), (al, nw_ai cI 1000 Ln), (an, nw_ai cZ 61 f), (ax, nw_ai cZ 61 NE)] := hD
  obtain ⟨hj1, hj2, hT⟩ := hA1
  refine lv_iload_n hx hb d_Mod_fits_9 rfl (lv_at hl 0 rfl) ?_
  refine lv_iload_n hx hb d_Mod_fits_10 rfl (lv_at hl 3 rfl) ?_
  refine lv_icmp_gt hx hb d_Mod_fits_11 (tgt := 55) (by decide) (fun hc1 => ?_) (fun hc1 => ?_)
  · rw [nI_ltI (by omega) (by omega)] at hc1
    refine lv_iconst (v := nI 0) hx hb d_Mod_fits_55 (by decide) ?_
    refine lv_istore_n hx hb d_Mod_fits_56 rfl hl (by decide) rfl (fun ls hl => ?_)
    replace hl : lv_has ls 7 [(3, .int (nI 0)), (0, .ref hM), (1, .int (nI i)), (2, .int (nI n))] := hl
    refine nw_loopW (σ := Nat × (Nat → Nat) × (Nat → Nat)) (fun x => match x with | (a, f, g) => a ≤ Ln i ∧ ∀ t, t ≤ n → f t = (nw_M I (fun k => X (i * 60 + k)) a t).toNat) (fun x => match x with | (a, f, g) => [(3, .int (nI a)), (0, .ref hM), (1, .int (nI i)), (2, .int (nI n))]) (fun x => match x with | (a, f, g) => [(hM, .inr (1, [.ref ai, .ref aw, .ref ar, .ref al, .ref aL, .ref aD, .ref ac, .ref af, .ref ap, .ref an, .ref ax, .int (nI isz), .int (nI wn), .int (nI chn), .int (nI rn), .int (nI th)])), (ai, nw_ai cB 60 I), (aw, nw_ai cB 60000 X), (al, nw_ai cI 1000 Ln), (an, nw_ai cZ 61 f), (ax, nw_ai cZ 61 g)]) (fun x => match x with | (a, f, g) => Ln i - a) (fun x hA2 ih2 ls H locs hl hP hD hS => ?_) (0, f, NE) (⟨Nat.zero_le _, fun t h => hT t (by omega)⟩) hl hP hD hS
    obtain ⟨a, f, g⟩ := x
    replace hA2 : a ≤ Ln i ∧ ∀ t, t ≤ n → f t = (nw_M I (fun k => X (i * 60 + k)) a t).toNat := hA2
    replace hl : lv_has ls 7 [(3, .int (nI a)), (0, .ref hM), (1, .int (nI i)), (2, .int (nI n))] := hl
    replace hP : va_P (dC, dI) nw_cls [(hM, .inr (1, [.ref ai, .ref aw, .ref ar, .ref al, .ref aL, .ref aD, .ref ac, .ref af, .ref ap, .ref an, .ref ax, .int (nI isz), .int (nI wn), .int (nI chn), .int (nI rn), .int (nI th)])), (ai, nw_ai cB 60 I), (aw, nw_ai cB 60000 X), (al, nw_ai cI 1000 Ln), (an, nw_ai cZ 61 f), (ax, nw_ai cZ 61 g)] H := hP
    replace hD : va_D A [(hM, .inr (1, [.ref ai, .ref aw, .ref ar, .ref al, .ref aL, .ref aD, .ref ac, .ref af, .ref ap, .ref an, .ref ax, .int (nI isz), .int (nI wn), .int (nI chn), .int (nI rn), .int (nI th)])), (ai, nw_ai cB 60 I), (aw, nw_ai cB 60000 X), (al, nw_ai cI 1000 Ln), (an, nw_ai cZ 61 f), (ax, nw_ai cZ 61 g)] := hD
    obtain ⟨ha, hF⟩ := hA2
    refine lv_iload_n hx hb d_Mod_fits_57 rfl (lv_at hl 0 rfl) ?_
    refine lv_aload_n hx hb d_Mod_fits_58 rfl (lv_at hl 1 rfl) ?_
    refine va_get (D := (dC, dI)) (ci := 1) (v := .ref al) (C := R_Mod) (T := F_Mod) (N := 16) hx hb hts hin_Mod hown hK hP 0 rfl rfl 3 (by decide) (hts _ (nw_mc 178 rfl)) (fun _ h9 => h9) rfl d_Mod_fits_59 ?_
    refine lv_iload_n hx hb d_Mod_fits_62 rfl (lv_at hl 2 rfl) ?_
    refine nw_iald hx hb hK hP 3 1 rfl rfl (k := i) (by omega) (by first | decide | omega) d_Mod_fits_63 ?_
    refine lv_icmp_ge hx hb d_Mod_fits_64 (tgt := 223) (by decide) (fun hc4 => ?_) (fun hc4 => ?_)
    · rw [nI_leI (by omega) (by omega)] at hc4
      have ha9 : a = Ln i := by omega
      refine lv_aload_n hx hb d_Mod_fits_223 rfl (lv_at hl 1 rfl) ?_
      refine va_get (D := (dC, dI)) (ci := 1) (v := .ref an) (C := R_Mod) (T := F_Mod) (N := 16) hx hb hts hin_Mod hown hK hP 0 rfl rfl 9 (by decide) (hts _ (nw_mc 185 rfl)) (fun _ h9 => h9) rfl d_Mod_fits_224 ?_
      refine lv_iload_n hx hb d_Mod_fits_227 rfl (lv_at hl 3 rfl) ?_
      refine nw_zald hx hb hK hP 4 2 rfl rfl (k := n) (by omega) (by first | decide | omega) d_Mod_fits_228 ?_
      refine nw_ti (y := nI ((nw_M I (fun k => X (i * 60 + k)) (Ln i) n).toNat)) (congrArg nI (by rw [hF n (Nat.le_refl _), ha9])) ?_
      exact W.zret (v := nI ((nw_M I (fun k => X (i * 60 + k)) (Ln i) n).toNat)) hx hb hr (nw_zb _) (fun t ht hW => ⟨⟨_, (f, g), rfl, rfl, by rw [ht]; exact hP, hD⟩, hS.F ht⟩) hS.2.2 d_Mod_fits_229
    · rw [nI_leI (by omega) (by omega)] at hc4
      refine lv_aload_n hx hb d_Mod_fits_67 rfl (lv_at hl 1 rfl) ?_
      refine va_get (D := (dC, dI)) (ci := 1) (v := .ref aw) (C := R_Mod) (T := F_Mod) (N := 16) hx hb hts hin_Mod hown hK hP 0 rfl rfl 1 (by decide) (hts _ (nw_mc 175 rfl)) (fun _ h9 => h9) rfl d_Mod_fits_68 ?_
      refine lv_iload_n hx hb d_Mod_fits_71 rfl (lv_at hl 2 rfl) ?_
      refine lv_bipush (v := nI 60) hx hb d_Mod_fits_72 (by decide) ?_
      refine lv_imul hx hb d_Mod_fits_74 ?_
      refine nw_ti (pk_mul i 60) ?_
      refine lv_iload_n hx hb d_Mod_fits_75 rfl (lv_at hl 0 rfl) ?_
      refine lv_iadd hx hb d_Mod_fits_76 ?_
      refine nw_ti (nI_add (i * 60) a) ?_
      refine nw_bald hx hb hK hP 2 0 rfl rfl (k := ((i * 60) + a)) (by omega) (by first | decide | omega) d_Mod_fits_77 ?_
      refine lv_istore hx hb d_Mod_fits_78 hl (by decide) rfl (fun ls hl => ?_)
      replace hl : lv_has ls 7 [(4, .int (nI (X ((i * 60) + a)))), (3, .int (nI a)), (0, .ref hM), (1, .int (nI i)), (2, .int (nI n))] := hl
      refine lv_aload_n hx hb d_Mod_fits_80 rfl (lv_at hl 2 rfl) ?_
      refine va_get (D := (dC, dI)) (ci := 1) (v := .ref ax) (C := R_Mod) (T := F_Mod) (N := 16) hx hb hts hin_Mod hown hK hP 0 rfl rfl 10 (by decide) (hts _ (nw_mc 186 rfl)) (fun _ h9 => h9) rfl d_Mod_fits_81 ?_
      refine lv_iconst (v := nI 0) hx hb d_Mod_fits_84 (by decide) ?_
      refine lv_iconst (v := nI 0) hx hb d_Mod_fits_85 (by decide) ?_
      refine nw_zast hx hb hK hP hD hS 5 2 rfl rfl (k := 0) (v := 0) (by omega) (by first | decide | omega) (by omega) d_Mod_fits_86 (fun H locs hP hD hS => ?_)
      replace hP : va_P (dC, dI) nw_cls [(hM, .inr (1, [.ref ai, .ref aw, .ref ar, .ref al, .ref aL, .ref aD, .ref ac, .ref af, .ref ap, .ref an, .ref ax, .int (nI isz), .int (nI wn), .int (nI chn), .int (nI rn), .int (nI th)])), (ai, nw_ai cB 60 I), (aw, nw_ai cB 60000 X), (al, nw_ai cI 1000 Ln), (an, nw_ai cZ 61 f), (ax, nw_ai cZ 61 (va_up g 0 0))] H := hP
      replace hD : va_D A [(hM, .inr (1, [.ref ai, .ref aw, .ref ar, .ref al, .ref aL, .ref aD, .ref ac, .ref af, .ref ap, .ref an, .ref ax, .int (nI isz), .int (nI wn), .int (nI chn), .int (nI rn), .int (nI th)])), (ai, nw_ai cB 60 I), (aw, nw_ai cB 60000 X), (al, nw_ai cI 1000 Ln), (an, nw_ai cZ 61 f), (ax, nw_ai cZ 61 (va_up g 0 0))] := hD
      refine lv_iconst (v := nI 1) hx hb d_Mod_fits_87 (by decide) ?_
      refine lv_istore hx hb d_Mod_fits_88 hl (by decide) rfl (fun ls hl => ?_)
      replace hl : lv_has ls 7 [(5, .int (nI 1)), (4, .int (nI (X ((i * 60) + a)))), (3, .int (nI a)), (0, .ref hM), (1, .int (nI i)), (2, .int (nI n))] := hl
      refine nw_loopW (σ := Nat × (Nat → Nat)) (fun x => match x with | (j, g) => 1 ≤ j ∧ j ≤ n + 1 ∧ ∀ t, t < j → g t = (nw_M I (fun k => X (i * 60 + k)) (a + 1) t).toNat) (fun x => match x with | (j, g) => [(5, .int (nI j)), (4, .int (nI (X ((i * 60) + a)))), (3, .int (nI a)), (0, .ref hM), (1, .int (nI i)), (2, .int (nI n))]) (fun x => match x with | (j, g) => [(hM, .inr (1, [.ref ai, .ref aw, .ref ar, .ref al, .ref aL, .ref aD, .ref ac, .ref af, .ref ap, .ref an, .ref ax, .int (nI isz), .int (nI wn), .int (nI chn), .int (nI rn), .int (nI th)])), (ai, nw_ai cB 60 I), (aw, nw_ai cB 60000 X), (al, nw_ai cI 1000 Ln), (an, nw_ai cZ 61 f), (ax, nw_ai cZ 61 g)]) (fun x => match x with | (j, g) => n + 1 - j) (fun x hA3 ih3 ls H locs hl hP hD hS => ?_) (1, va_up g 0 0) (⟨Nat.le_refl _, by omega, fun t h => by rw [show t = 0 by omega, va_up_self, nw_M_s0]; rfl⟩) hl hP hD hS
      obtain ⟨j, g⟩ := x
      replace hA3 : 1 ≤ j ∧ j ≤ n + 1 ∧ ∀ t, t < j → g t = (nw_M I (fun k => X (i * 60 + k)) (a + 1) t).toNat := hA3
      replace hl : lv_has ls 7 [(5, .int (nI j)), (4, .int (nI (X ((i * 60) + a)))), (3, .int (nI a)), (0, .ref hM), (1, .int (nI i)), (2, .int (nI n))] := hl
      replace hP : va_P (dC, dI) nw_cls [(hM, .inr (1, [.ref ai, .ref aw, .ref ar, .ref al, .ref aL, .ref aD, .ref ac, .ref af, .ref ap, .ref an, .ref ax, .int (nI isz), .int (nI wn), .int (nI chn), .int (nI rn), .int (nI th)])), (ai, nw_ai cB 60 I), (aw, nw_ai cB 60000 X), (al, nw_ai cI 1000 Ln), (an, nw_ai cZ 61 f), (ax, nw_ai cZ 61 g)] H := hP
      replace hD : va_D A [(hM, .inr (1, [.ref ai, .ref aw, .ref ar, .ref al, .ref aL, .ref aD, .ref ac, .ref af, .ref ap, .ref an, .ref ax, .int (nI isz), .int (nI wn), .int (nI chn), .int (nI rn), .int (nI th)])), (ai, nw_ai cB 60 I), (aw, nw_ai cB 60000 X), (al, nw_ai cI 1000 Ln), (an, nw_ai cZ 61 f), (ax, nw_ai cZ 61 g)] := hD
      obtain ⟨hj1, hj2, hG⟩ := hA3
      refine lv_iload hx hb d_Mod_fits_90 (lv_at hl 0 rfl) ?_
      refine lv_iload_n hx hb d_Mod_fits_92 rfl (lv_at hl 5 rfl) ?_
      refine lv_icmp_gt hx hb d_Mod_fits_93 (tgt := 188) (by decide) (fun hc5 => ?_) (fun hc5 => ?_)
      · rw [nI_ltI (by omega) (by omega)] at hc5
        refine lv_iconst (v := nI 0) hx hb d_Mod_fits_188 (by decide) ?_
        refine lv_istore hx hb d_Mod_fits_189 hl (by decide) rfl (fun ls hl => ?_)
        replace hl : lv_has ls 7 [(5, .int (nI 0)), (4, .int (nI (X ((i * 60) + a)))), (3, .int (nI a)), (0, .ref hM), (1, .int (nI i)), (2, .int (nI n))] := hl
        refine nw_loopW (σ := Nat × (Nat → Nat)) (fun x => match x with | (j, f) => j ≤ n + 1 ∧ ∀ t, t < j → f t = (nw_M I (fun k => X (i * 60 + k)) (a + 1) t).toNat) (fun x => match x with | (j, f) => [(5, .int (nI j)), (4, .int (nI (X ((i * 60) + a)))), (3, .int (nI a)), (0, .ref hM), (1, .int (nI i)), (2, .int (nI n))]) (fun x => match x with | (j, f) => [(hM, .inr (1, [.ref ai, .ref aw, .ref ar, .ref al, .ref aL, .ref aD, .ref ac, .ref af, .ref ap, .ref an, .ref ax, .int (nI isz), .int (nI wn), .int (nI chn), .int (nI rn), .int (nI th)])), (ai, nw_ai cB 60 I), (aw, nw_ai cB 60000 X), (al, nw_ai cI 1000 Ln), (an, nw_ai cZ 61 f), (ax, nw_ai cZ 61 g)]) (fun x => match x with | (j, f) => n + 1 - j) (fun x hA4 ih4 ls H locs hl hP hD hS => ?_) (0, f) (⟨Nat.zero_le _, fun t h => absurd h (Nat.not_lt_zero t)⟩) hl hP hD hS
        obtain ⟨j, f⟩ := x
        replace hA4 : j ≤ n + 1 ∧ ∀ t, t < j → f t = (nw_M I (fun k => X (i * 60 + k)) (a + 1) t).toNat := hA4
        replace hl : lv_has ls 7 [(5, .int (nI j)), (4, .int (nI (X ((i * 60) + a)))), (3, .int (nI a)), (0, .ref hM), (1, .int (nI i)), (2, .int (nI n))] := hl
        replace hP : va_P (dC, dI) nw_cls [(hM, .inr (1, [.ref ai, .ref aw, .ref ar, .ref al, .ref aL, .ref aD, .ref ac, .ref af, .ref ap, .ref an, .ref ax, .int (nI isz), .int (nI wn), .int (nI chn), .int (nI rn), .int (nI th)])), (ai, nw_ai cB 60 I), (aw, nw_ai cB 60000 X), (al, nw_ai cI 1000 Ln), (an, nw_ai cZ 61 f), (ax, nw_ai cZ 61 g)] H := hP
        replace hD : va_D A [(hM, .inr (1, [.ref ai, .ref aw, .ref ar, .ref al, .ref aL, .ref aD, .ref ac, .ref af, .ref ap, .ref an, .ref ax, .int (nI isz), .int (nI wn), .int (nI chn), .int (nI rn), .int (nI th)])), (ai, nw_ai cB 60 I), (aw, nw_ai cB 60000 X), (al, nw_ai cI 1000 Ln), (an, nw_ai cZ 61 f), (ax, nw_ai cZ 61 g)] := hD
        obtain ⟨hj3, hF2⟩ := hA4
        refine lv_iload hx hb d_Mod_fits_191 (lv_at hl 0 rfl) ?_
        refine lv_iload_n hx hb d_Mod_fits_193 rfl (lv_at hl 5 rfl) ?_
        refine lv_icmp_gt hx hb d_Mod_fits_194 (tgt := 217) (by decide) (fun hc7 => ?_) (fun hc7 => ?_)
        · rw [nI_ltI (by omega) (by omega)] at hc7
          refine lv_iinc (v := nI (a + 1)) hx hb d_Mod_fits_217 hl (k := 2) rfl (nI_add a 1) (by decide) rfl (fun ls hl => ?_)
          have hl : lv_has ls 7 [(3, .int (nI (a + 1))), (5, .int (nI j)), (4, .int (nI (X ((i * 60) + a)))), (0, .ref hM), (1, .int (nI i)), (2, .int (nI n))] := hl
          refine lv_goto hx hb d_Mod_fits_220 (tgt := 57) (by decide) ?_
          exact ih2 (a + 1, f, g) (⟨by omega, fun t h => hF2 t (by omega)⟩) (show Ln i - (a + 1) < Ln i - a by omega) _ _ _ (lv_sub hl [0, 3, 4, 5] rfl) hP hD hS
        · rw [nI_ltI (by omega) (by omega)] at hc7
          have hg1 := hG j (by omega)
          have z9 := nw_b2 (nw_M I (fun k => X (i * 60 + k)) (a + 1) j)
          refine lv_aload_n hx hb d_Mod_fits_197 rfl (lv_at hl 3 rfl) ?_
          refine va_get (D := (dC, dI)) (ci := 1) (v := .ref an) (C := R_Mod) (T := F_Mod) (N := 16) hx hb hts hin_Mod hown hK hP 0 rfl rfl 9 (by decide) (hts _ (nw_mc 185 rfl)) (fun _ h9 => h9) rfl d_Mod_fits_198 ?_
          refine lv_iload hx hb d_Mod_fits_201 (lv_at hl 0 rfl) ?_
          refine lv_aload_n hx hb d_Mod_fits_203 rfl (lv_at hl 3 rfl) ?_
          refine va_get (D := (dC, dI)) (ci := 1) (v := .ref ax) (C := R_Mod) (T := F_Mod) (N := 16) hx hb hts hin_Mod hown hK hP 0 rfl rfl 10 (by decide) (hts _ (nw_mc 186 rfl)) (fun _ h9 => h9) rfl d_Mod_fits_204 ?_
          refine lv_iload hx hb d_Mod_fits_207 (lv_at hl 0 rfl) ?_
          refine nw_zald hx hb hK hP 5 2 rfl rfl (k := j) (by omega) (by first | decide | omega) d_Mod_fits_209 ?_
          refine nw_zast hx hb hK hP hD hS 4 2 rfl rfl (k := j) (v := (g j)) (by omega) (by first | decide | omega) (by omega) d_Mod_fits_210 (fun H locs hP hD hS => ?_)
          replace hP : va_P (dC, dI) nw_cls [(hM, .inr (1, [.ref ai, .ref aw, .ref ar, .ref al, .ref aL, .ref aD, .ref ac, .ref af, .ref ap, .ref an, .ref ax, .int (nI isz), .int (nI wn), .int (nI chn), .int (nI rn), .int (nI th)])), (ai, nw_ai cB 60 I), (aw, nw_ai cB 60000 X), (al, nw_ai cI 1000 Ln), (an, nw_ai cZ 61 (va_up f j (g j))), (ax, nw_ai cZ 61 g)] H := hP
          replace hD : va_D A [(hM, .inr (1, [.ref ai, .ref aw, .ref ar, .ref al, .ref aL, .ref aD, .ref ac, .ref af, .ref ap, .ref an, .ref ax, .int (nI isz), .int (nI wn), .int (nI chn), .int (nI rn), .int (nI th)])), (ai, nw_ai cB 60 I), (aw, nw_ai cB 60000 X), (al, nw_ai cI 1000 Ln), (an, nw_ai cZ 61 (va_up f j (g j))), (ax, nw_ai cZ 61 g)] := hD
          refine lv_iinc (v := nI (j + 1)) hx hb d_Mod_fits_211 hl (k := 0) rfl (nI_add j 1) (by decide) rfl (fun ls hl => ?_)
          have hl : lv_has ls 7 [(5, .int (nI (j + 1))), (4, .int (nI (X ((i * 60) + a)))), (3, .int (nI a)), (0, .ref hM), (1, .int (nI i)), (2, .int (nI n))] := hl
          refine lv_goto hx hb d_Mod_fits_214 (tgt := 191) (by decide) ?_
          exact ih4 (j + 1, va_up f j (g j)) (⟨by omega, fun t h => by
            by_cases e : t = j
            · rw [e]; exact (va_up_self f _ _).trans hg1
            · exact (va_up_ne f _ e).trans (hF2 t (by omega))⟩) (show n + 1 - (j + 1) < n + 1 - j by omega) _ _ _ hl hP hD hS
      · rw [nI_ltI (by omega) (by omega)] at hc5
        refine lv_aload_n hx hb d_Mod_fits_96 rfl (lv_at hl 3 rfl) ?_
        refine va_get (D := (dC, dI)) (ci := 1) (v := .ref ai) (C := R_Mod) (T := F_Mod) (N := 16) hx hb hts hin_Mod hown hK hP 0 rfl rfl 0 (by decide) (hts _ (nw_mc 173 rfl)) (fun _ h9 => h9) rfl d_Mod_fits_97 ?_
        refine lv_iload hx hb d_Mod_fits_100 (lv_at hl 0 rfl) ?_
        refine lv_iconst (v := nI 1) hx hb d_Mod_fits_102 (by decide) ?_
        refine lv_isub hx hb d_Mod_fits_103 ?_
        refine nw_ti (pk_sub (a := j) (b := 1) (by omega)) ?_
        have y1 := hI0 (j - 1)
        have x1 := hX (i * 60 + a)
        have z1 := nw_b2 (nw_M I (fun k => X (i * 60 + k)) (a + 1) (j - 1))
        have z2 := nw_b2 (nw_M I (fun k => X (i * 60 + k)) a j)
        have z3 := nw_b2 (nw_M I (fun k => X (i * 60 + k)) a (j - 1))
        refine nw_bald hx hb hK hP 1 0 rfl rfl (k := (j - 1)) (by omega) (by first | decide | omega) d_Mod_fits_104 ?_
        refine lv_istore hx hb d_Mod_fits_105 hl (by decide) rfl (fun ls hl => ?_)
        replace hl : lv_has ls 7 [(6, .int (nI (I (j - 1)))), (5, .int (nI j)), (4, .int (nI (X ((i * 60) + a)))), (3, .int (nI a)), (0, .ref hM), (1, .int (nI i)), (2, .int (nI n))] := hl
        refine lv_aload_n hx hb d_Mod_fits_107 rfl (lv_at hl 4 rfl) ?_
        refine va_get (D := (dC, dI)) (ci := 1) (v := .ref ax) (C := R_Mod) (T := F_Mod) (N := 16) hx hb hts hin_Mod hown hK hP 0 rfl rfl 10 (by decide) (hts _ (nw_mc 186 rfl)) (fun _ h9 => h9) rfl d_Mod_fits_108 ?_
        refine lv_iload hx hb d_Mod_fits_111 (lv_at hl 1 rfl) ?_
        refine lv_iload hx hb d_Mod_fits_113 (lv_at hl 0 rfl) ?_
        refine lv_bipush (v := nI 42) hx hb d_Mod_fits_115 (by decide) ?_
        refine lv_icmp_ne hx hb d_Mod_fits_117 (tgt := 150) (by decide) (fun hc6 => ?_) (fun hc6 => ?_)
        · rw [nI_eq (by omega) (by omega)] at hc6
          refine lv_aload_n hx hb d_Mod_fits_150 rfl (lv_at hl 4 rfl) ?_
          refine va_get (D := (dC, dI)) (ci := 1) (v := .ref an) (C := R_Mod) (T := F_Mod) (N := 16) hx hb hts hin_Mod hown hK hP 0 rfl rfl 9 (by decide) (hts _ (nw_mc 185 rfl)) (fun _ h9 => h9) rfl d_Mod_fits_151 ?_
          refine lv_iload hx hb d_Mod_fits_154 (lv_at hl 1 rfl) ?_
          refine lv_iconst (v := nI 1) hx hb d_Mod_fits_156 (by decide) ?_
          refine lv_isub hx hb d_Mod_fits_157 ?_
          refine nw_ti (pk_sub (a := j) (b := 1) (by omega)) ?_
          refine nw_zald hx hb hK hP 4 2 rfl rfl (k := (j - 1)) (by omega) (by first | decide | omega) d_Mod_fits_158 ?_
          refine nw_ti (y := nI ((nw_M I (fun k => X (i * 60 + k)) a (j - 1)).toNat)) (congrArg nI (hF _ (by omega))) ?_
          refine lv_if_eq hx hb d_Mod_fits_159 (tgt := 180) (by decide) (fun hc7 => ?_) (fun hc7 => ?_)
          · rw [nw_eq0 (by omega)] at hc7
            refine lv_iconst (v := nI 0) hx hb d_Mod_fits_180 (by decide) ?_
            refine nw_ti (y := nI ((nw_M I (fun k => X (i * 60 + k)) (a + 1) j).toNat)) (congrArg nI (by rw [nw_M_rn (by omega) hc6, nw_bf.mp hc7]; rfl)) ?_
            have z9 := nw_b2 (nw_M I (fun k => X (i * 60 + k)) (a + 1) j)
            refine nw_zast hx hb hK hP hD hS 5 2 rfl rfl (k := j) (v := ((nw_M I (fun k => X (i * 60 + k)) (a + 1) j).toNat)) (by omega) (by first | decide | omega) (by omega) d_Mod_fits_181 (fun H locs hP hD hS => ?_)
            replace hP : va_P (dC, dI) nw_cls [(hM, .inr (1, [.ref ai, .ref aw, .ref ar, .ref al, .ref aL, .ref aD, .ref ac, .ref af, .ref ap, .ref an, .ref ax, .int (nI isz), .int (nI wn), .int (nI chn), .int (nI rn), .int (nI th)])), (ai, nw_ai cB 60 I), (aw, nw_ai cB 60000 X), (al, nw_ai cI 1000 Ln), (an, nw_ai cZ 61 f), (ax, nw_ai cZ 61 (va_up g j ((nw_M I (fun k => X (i * 60 + k)) (a + 1) j).toNat)))] H := hP
            replace hD : va_D A [(hM, .inr (1, [.ref ai, .ref aw, .ref ar, .ref al, .ref aL, .ref aD, .ref ac, .ref af, .ref ap, .ref an, .ref ax, .int (nI isz), .int (nI wn), .int (nI chn), .int (nI rn), .int (nI th)])), (ai, nw_ai cB 60 I), (aw, nw_ai cB 60000 X), (al, nw_ai cI 1000 Ln), (an, nw_ai cZ 61 f), (ax, nw_ai cZ 61 (va_up g j ((nw_M I (fun k => X (i * 60 + k)) (a + 1) j).toNat)))] := hD
            refine lv_iinc (v := nI (j + 1)) hx hb d_Mod_fits_182 hl (k := 1) rfl (nI_add j 1) (by decide) rfl (fun ls hl => ?_)
            have hl : lv_has ls 7 [(5, .int (nI (j + 1))), (6, .int (nI (I (j - 1)))), (4, .int (nI (X ((i * 60) + a)))), (3, .int (nI a)), (0, .ref hM), (1, .int (nI i)), (2, .int (nI n))] := hl
            refine lv_goto hx hb d_Mod_fits_185 (tgt := 90) (by decide) ?_
            exact ih3 (j + 1, va_up g j ((nw_M I (fun k => X (i * 60 + k)) (a + 1) j).toNat)) (⟨by omega, by omega, fun t h => by
              by_cases e : t = j
              · rw [e]; exact va_up_self g _ _
              · exact (va_up_ne g _ e).trans (hG t (by omega))⟩) (show n + 1 - (j + 1) < n + 1 - j by omega) _ _ _ (lv_sub hl [0, 2, 3, 4, 5, 6] rfl) hP hD hS
          · rw [nw_eq0 (by omega)] at hc7
            refine lv_iload hx hb d_Mod_fits_162 (lv_at hl 0 rfl) ?_
            refine lv_bipush (v := nI 63) hx hb d_Mod_fits_164 (by decide) ?_
            refine lv_icmp_eq hx hb d_Mod_fits_166 (tgt := 176) (by decide) (fun hc8 => ?_) (fun hc8 => ?_)
            · rw [nI_eq (by omega) (by omega)] at hc8
              refine lv_iconst (v := nI 1) hx hb d_Mod_fits_176 (by decide) ?_
              refine lv_goto hx hb d_Mod_fits_177 (tgt := 181) (by decide) ?_
              refine nw_ti (y := nI ((nw_M I (fun k => X (i * 60 + k)) (a + 1) j).toNat)) (congrArg nI (by rw [nw_M_rn (by omega) hc6, nw_bt.mp hc7, decide_eq_true hc8]; rfl)) ?_
              have z9 := nw_b2 (nw_M I (fun k => X (i * 60 + k)) (a + 1) j)
              refine nw_zast hx hb hK hP hD hS 5 2 rfl rfl (k := j) (v := ((nw_M I (fun k => X (i * 60 + k)) (a + 1) j).toNat)) (by omega) (by first | decide | omega) (by omega) d_Mod_fits_181 (fun H locs hP hD hS => ?_)
              replace hP : va_P (dC, dI) nw_cls [(hM, .inr (1, [.ref ai, .ref aw, .ref ar, .ref al, .ref aL, .ref aD, .ref ac, .ref af, .ref ap, .ref an, .ref ax, .int (nI isz), .int (nI wn), .int (nI chn), .int (nI rn), .int (nI th)])), (ai, nw_ai cB 60 I), (aw, nw_ai cB 60000 X), (al, nw_ai cI 1000 Ln), (an, nw_ai cZ 61 f), (ax, nw_ai cZ 61 (va_up g j ((nw_M I (fun k => X (i * 60 + k)) (a + 1) j).toNat)))] H := hP
              replace hD : va_D A [(hM, .inr (1, [.ref ai, .ref aw, .ref ar, .ref al, .ref aL, .ref aD, .ref ac, .ref af, .ref ap, .ref an, .ref ax, .int (nI isz), .int (nI wn), .int (nI chn), .int (nI rn), .int (nI th)])), (ai, nw_ai cB 60 I), (aw, nw_ai cB 60000 X), (al, nw_ai cI 1000 Ln), (an, nw_ai cZ 61 f), (ax, nw_ai cZ 61 (va_up g j ((nw_M I (fun k => X (i * 60 + k)) (a + 1) j).toNat)))] := hD
              refine lv_iinc (v := nI (j + 1)) hx hb d_Mod_fits_182 hl (k := 1) rfl (nI_add j 1) (by decide) rfl (fun ls hl => ?_)
              have hl : lv_has ls 7 [(5, .int (nI (j + 1))), (6, .int (nI (I (j - 1)))), (4, .int (nI (X ((i * 60) + a)))), (3, .int (nI a)), (0, .ref hM), (1, .int (nI i)), (2, .int (nI n))] := hl
              refine lv_goto hx hb d_Mod_fits_185 (tgt := 90) (by decide) ?_
              exact ih3 (j + 1, va_up g j ((nw_M I (fun k => X (i * 60 + k)) (a + 1) j).toNat)) (⟨by omega, by omega, fun t h => by
                by_cases e : t = j
                · rw [e]; exact va_up_self g _ _
                · exact (va_up_ne g _ e).trans (hG t (by omega))⟩) (show n + 1 - (j + 1) < n + 1 - j by omega) _ _ _ (lv_sub hl [0, 2, 3, 4, 5, 6] rfl) hP hD hS
            · rw [nI_eq (by omega) (by omega)] at hc8
              refine lv_iload hx hb d_Mod_fits_169 (lv_at hl 0 rfl) ?_
              refine lv_iload hx hb d_Mod_fits_171 (lv_at hl 2 rfl) ?_
              refine lv_icmp_ne hx hb d_Mod_fits_173 (tgt := 180) (by decide) (fun hc9 => ?_) (fun hc9 => ?_)
              · rw [nI_eq (by omega) (by omega)] at hc9
                refine lv_iconst (v := nI 0) hx hb d_Mod_fits_180 (by decide) ?_
                refine nw_ti (y := nI ((nw_M I (fun k => X (i * 60 + k)) (a + 1) j).toNat)) (congrArg nI (by rw [nw_M_rn (by omega) hc6, nw_bt.mp hc7, decide_eq_false hc8, decide_eq_false hc9]; rfl)) ?_
                have z9 := nw_b2 (nw_M I (fun k => X (i * 60 + k)) (a + 1) j)
                refine nw_zast hx hb hK hP hD hS 5 2 rfl rfl (k := j) (v := ((nw_M I (fun k => X (i * 60 + k)) (a + 1) j).toNat)) (by omega) (by first | decide | omega) (by omega) d_Mod_fits_181 (fun H locs hP hD hS => ?_)
                replace hP : va_P (dC, dI) nw_cls [(hM, .inr (1, [.ref ai, .ref aw, .ref ar, .ref al, .ref aL, .ref aD, .ref ac, .ref af, .ref ap, .ref an, .ref ax, .int (nI isz), .int (nI wn), .int (nI chn), .int (nI rn), .int (nI th)])), (ai, nw_ai cB 60 I), (aw, nw_ai cB 60000 X), (al, nw_ai cI 1000 Ln), (an, nw_ai cZ 61 f), (ax, nw_ai cZ 61 (va_up g j ((nw_M I (fun k => X (i * 60 + k)) (a + 1) j).toNat)))] H := hP
                replace hD : va_D A [(hM, .inr (1, [.ref ai, .ref aw, .ref ar, .ref al, .ref aL, .ref aD, .ref ac, .ref af, .ref ap, .ref an, .ref ax, .int (nI isz), .int (nI wn), .int (nI chn), .int (nI rn), .int (nI th)])), (ai, nw_ai cB 60 I), (aw, nw_ai cB 60000 X), (al, nw_ai cI 1000 Ln), (an, nw_ai cZ 61 f), (ax, nw_ai cZ 61 (va_up g j ((nw_M I (fun k => X (i * 60 + k)) (a + 1) j).toNat)))] := hD
                refine lv_iinc (v := nI (j + 1)) hx hb d_Mod_fits_182 hl (k := 1) rfl (nI_add j 1) (by decide) rfl (fun ls hl => ?_)
                have hl : lv_has ls 7 [(5, .int (nI (j + 1))), (6, .int (nI (I (j - 1)))), (4, .int (nI (X ((i * 60) + a)))), (3, .int (nI a)), (0, .ref hM), (1, .int (nI i)), (2, .int (nI n))] := hl
                refine lv_goto hx hb d_Mod_fits_185 (tgt := 90) (by decide) ?_
                exact ih3 (j + 1, va_up g j ((nw_M I (fun k => X (i * 60 + k)) (a + 1) j).toNat)) (⟨by omega, by omega, fun t h => by
                  by_cases e : t = j
                  · rw [e]; exact va_up_self g _ _
                  · exact (va_up_ne g _ e).trans (hG t (by omega))⟩) (show n + 1 - (j + 1) < n + 1 - j by omega) _ _ _ (lv_sub hl [0, 2, 3, 4, 5, 6] rfl) hP hD hS
              · rw [nI_eq (by omega) (by omega)] at hc9
                refine lv_iconst (v := nI 1) hx hb d_Mod_fits_176 (by decide) ?_
                refine lv_goto hx hb d_Mod_fits_177 (tgt := 181) (by decide) ?_
                refine nw_ti (y := nI ((nw_M I (fun k => X (i * 60 + k)) (a + 1) j).toNat)) (congrArg nI (by rw [nw_M_rn (by omega) hc6, nw_bt.mp hc7, decide_eq_false hc8, decide_eq_true hc9]; rfl)) ?_
                have z9 := nw_b2 (nw_M I (fun k => X (i * 60 + k)) (a + 1) j)
                refine nw_zast hx hb hK hP hD hS 5 2 rfl rfl (k := j) (v := ((nw_M I (fun k => X (i * 60 + k)) (a + 1) j).toNat)) (by omega) (by first | decide | omega) (by omega) d_Mod_fits_181 (fun H locs hP hD hS => ?_)
                replace hP : va_P (dC, dI) nw_cls [(hM, .inr (1, [.ref ai, .ref aw, .ref ar, .ref al, .ref aL, .ref aD, .ref ac, .ref af, .ref ap, .ref an, .ref ax, .int (nI isz), .int (nI wn), .int (nI chn), .int (nI rn), .int (nI th)])), (ai, nw_ai cB 60 I), (aw, nw_ai cB 60000 X), (al, nw_ai cI 1000 Ln), (an, nw_ai cZ 61 f), (ax, nw_ai cZ 61 (va_up g j ((nw_M I (fun k => X (i * 60 + k)) (a + 1) j).toNat)))] H := hP
                replace hD : va_D A [(hM, .inr (1, [.ref ai, .ref aw, .ref ar, .ref al, .ref aL, .ref aD, .ref ac, .ref af, .ref ap, .ref an, .ref ax, .int (nI isz), .int (nI wn), .int (nI chn), .int (nI rn), .int (nI th)])), (ai, nw_ai cB 60 I), (aw, nw_ai cB 60000 X), (al, nw_ai cI 1000 Ln), (an, nw_ai cZ 61 f), (ax, nw_ai cZ 61 (va_up g j ((nw_M I (fun k => X (i * 60 + k)) (a + 1) j).toNat)))] := hD
                refine lv_iinc (v := nI (j + 1)) hx hb d_Mod_fits_182 hl (k := 1) rfl (nI_add j 1) (by decide) rfl (fun ls hl => ?_)
                have hl : lv_has ls 7 [(5, .int (nI (j + 1))), (6, .int (nI (I (j - 1)))), (4, .int (nI (X ((i * 60) + a)))), (3, .int (nI a)), (0, .ref hM), (1, .int (nI i)), (2, .int (nI n))] := hl
                refine lv_goto hx hb d_Mod_fits_185 (tgt := 90) (by decide) ?_
                exact ih3 (j + 1, va_up g j ((nw_M I (fun k => X (i * 60 + k)) (a + 1) j).toNat)) (⟨by omega, by omega, fun t h => by
                  by_cases e : t = j
                  · rw [e]; exact va_up_self g _ _
                  · exact (va_up_ne g _ e).trans (hG t (by omega))⟩) (show n + 1 - (j + 1) < n + 1 - j by omega) _ _ _ (lv_sub hl [0, 2, 3, 4, 5, 6] rfl) hP hD hS
        · rw [nI_eq (by omega) (by omega)] at hc6
          refine lv_aload_n hx hb d_Mod_fits_120 rfl (lv_at hl 4 rfl) ?_
          refine va_get (D := (dC, dI)) (ci := 1) (v := .ref ax) (C := R_Mod) (T := F_Mod) (N := 16) hx hb hts hin_Mod hown hK hP 0 rfl rfl 10 (by decide) (hts _ (nw_mc 186 rfl)) (fun _ h9 => h9) rfl d_Mod_fits_121 ?_
          refine lv_iload hx hb d_Mod_fits_124 (lv_at hl 1 rfl) ?_
          refine lv_iconst (v := nI 1) hx hb d_Mod_fits_126 (by decide) ?_
          refine lv_isub hx hb d_Mod_fits_127 ?_
          refine nw_ti (pk_sub (a := j) (b := 1) (by omega)) ?_
          refine nw_zald hx hb hK hP 5 2 rfl rfl (k := (j - 1)) (by omega) (by first | decide | omega) d_Mod_fits_128 ?_
          refine nw_ti (y := nI ((nw_M I (fun k => X (i * 60 + k)) (a + 1) (j - 1)).toNat)) (congrArg nI (hG _ (by omega))) ?_
          refine lv_if_ne hx hb d_Mod_fits_129 (tgt := 142) (by decide) (fun hc7 => ?_) (fun hc7 => ?_)
          · rw [nw_eq0 (by omega)] at hc7
            refine lv_iconst (v := nI 1) hx hb d_Mod_fits_142 (by decide) ?_
            refine lv_goto hx hb d_Mod_fits_143 (tgt := 181) (by decide) ?_
            refine nw_ti (y := nI ((nw_M I (fun k => X (i * 60 + k)) (a + 1) j).toNat)) (congrArg nI (by rw [nw_M_rs (by omega) hc6, nw_bt.mp hc7]; rfl)) ?_
            have z9 := nw_b2 (nw_M I (fun k => X (i * 60 + k)) (a + 1) j)
            refine nw_zast hx hb hK hP hD hS 5 2 rfl rfl (k := j) (v := ((nw_M I (fun k => X (i * 60 + k)) (a + 1) j).toNat)) (by omega) (by first | decide | omega) (by omega) d_Mod_fits_181 (fun H locs hP hD hS => ?_)
            replace hP : va_P (dC, dI) nw_cls [(hM, .inr (1, [.ref ai, .ref aw, .ref ar, .ref al, .ref aL, .ref aD, .ref ac, .ref af, .ref ap, .ref an, .ref ax, .int (nI isz), .int (nI wn), .int (nI chn), .int (nI rn), .int (nI th)])), (ai, nw_ai cB 60 I), (aw, nw_ai cB 60000 X), (al, nw_ai cI 1000 Ln), (an, nw_ai cZ 61 f), (ax, nw_ai cZ 61 (va_up g j ((nw_M I (fun k => X (i * 60 + k)) (a + 1) j).toNat)))] H := hP
            replace hD : va_D A [(hM, .inr (1, [.ref ai, .ref aw, .ref ar, .ref al, .ref aL, .ref aD, .ref ac, .ref af, .ref ap, .ref an, .ref ax, .int (nI isz), .int (nI wn), .int (nI chn), .int (nI rn), .int (nI th)])), (ai, nw_ai cB 60 I), (aw, nw_ai cB 60000 X), (al, nw_ai cI 1000 Ln), (an, nw_ai cZ 61 f), (ax, nw_ai cZ 61 (va_up g j ((nw_M I (fun k => X (i * 60 + k)) (a + 1) j).toNat)))] := hD
            refine lv_iinc (v := nI (j + 1)) hx hb d_Mod_fits_182 hl (k := 1) rfl (nI_add j 1) (by decide) rfl (fun ls hl => ?_)
            have hl : lv_has ls 7 [(5, .int (nI (j + 1))), (6, .int (nI (I (j - 1)))), (4, .int (nI (X ((i * 60) + a)))), (3, .int (nI a)), (0, .ref hM), (1, .int (nI i)), (2, .int (nI n))] := hl
            refine lv_goto hx hb d_Mod_fits_185 (tgt := 90) (by decide) ?_
            exact ih3 (j + 1, va_up g j ((nw_M I (fun k => X (i * 60 + k)) (a + 1) j).toNat)) (⟨by omega, by omega, fun t h => by
              by_cases e : t = j
              · rw [e]; exact va_up_self g _ _
              · exact (va_up_ne g _ e).trans (hG t (by omega))⟩) (show n + 1 - (j + 1) < n + 1 - j by omega) _ _ _ (lv_sub hl [0, 2, 3, 4, 5, 6] rfl) hP hD hS
          · rw [nw_eq0 (by omega)] at hc7
            refine lv_aload_n hx hb d_Mod_fits_132 rfl (lv_at hl 4 rfl) ?_
            refine va_get (D := (dC, dI)) (ci := 1) (v := .ref an) (C := R_Mod) (T := F_Mod) (N := 16) hx hb hts hin_Mod hown hK hP 0 rfl rfl 9 (by decide) (hts _ (nw_mc 185 rfl)) (fun _ h9 => h9) rfl d_Mod_fits_133 ?_
            refine lv_iload hx hb d_Mod_fits_136 (lv_at hl 1 rfl) ?_
            refine nw_zald hx hb hK hP 4 2 rfl rfl (k := j) (by omega) (by first | decide | omega) d_Mod_fits_138 ?_
            refine nw_ti (y := nI ((nw_M I (fun k => X (i * 60 + k)) a j).toNat)) (congrArg nI (hF _ (by omega))) ?_
            refine lv_if_eq hx hb d_Mod_fits_139 (tgt := 146) (by decide) (fun hc8 => ?_) (fun hc8 => ?_)
            · rw [nw_eq0 (by omega)] at hc8
              refine lv_iconst (v := nI 0) hx hb d_Mod_fits_146 (by decide) ?_
              refine lv_goto hx hb d_Mod_fits_147 (tgt := 181) (by decide) ?_
              refine nw_ti (y := nI ((nw_M I (fun k => X (i * 60 + k)) (a + 1) j).toNat)) (congrArg nI (by rw [nw_M_rs (by omega) hc6, nw_bf.mp hc7, nw_bf.mp hc8]; rfl)) ?_
              have z9 := nw_b2 (nw_M I (fun k => X (i * 60 + k)) (a + 1) j)
              refine nw_zast hx hb hK hP hD hS 5 2 rfl rfl (k := j) (v := ((nw_M I (fun k => X (i * 60 + k)) (a + 1) j).toNat)) (by omega) (by first | decide | omega) (by omega) d_Mod_fits_181 (fun H locs hP hD hS => ?_)
              replace hP : va_P (dC, dI) nw_cls [(hM, .inr (1, [.ref ai, .ref aw, .ref ar, .ref al, .ref aL, .ref aD, .ref ac, .ref af, .ref ap, .ref an, .ref ax, .int (nI isz), .int (nI wn), .int (nI chn), .int (nI rn), .int (nI th)])), (ai, nw_ai cB 60 I), (aw, nw_ai cB 60000 X), (al, nw_ai cI 1000 Ln), (an, nw_ai cZ 61 f), (ax, nw_ai cZ 61 (va_up g j ((nw_M I (fun k => X (i * 60 + k)) (a + 1) j).toNat)))] H := hP
              replace hD : va_D A [(hM, .inr (1, [.ref ai, .ref aw, .ref ar, .ref al, .ref aL, .ref aD, .ref ac, .ref af, .ref ap, .ref an, .ref ax, .int (nI isz), .int (nI wn), .int (nI chn), .int (nI rn), .int (nI th)])), (ai, nw_ai cB 60 I), (aw, nw_ai cB 60000 X), (al, nw_ai cI 1000 Ln), (an, nw_ai cZ 61 f), (ax, nw_ai cZ 61 (va_up g j ((nw_M I (fun k => X (i * 60 + k)) (a + 1) j).toNat)))] := hD
              refine lv_iinc (v := nI (j + 1)) hx hb d_Mod_fits_182 hl (k := 1) rfl (nI_add j 1) (by decide) rfl (fun ls hl => ?_)
              have hl : lv_has ls 7 [(5, .int (nI (j + 1))), (6, .int (nI (I (j - 1)))), (4, .int (nI (X ((i * 60) + a)))), (3, .int (nI a)), (0, .ref hM), (1, .int (nI i)), (2, .int (nI n))] := hl
              refine lv_goto hx hb d_Mod_fits_185 (tgt := 90) (by decide) ?_
              exact ih3 (j + 1, va_up g j ((nw_M I (fun k => X (i * 60 + k)) (a + 1) j).toNat)) (⟨by omega, by omega, fun t h => by
                by_cases e : t = j
                · rw [e]; exact va_up_self g _ _
                · exact (va_up_ne g _ e).trans (hG t (by omega))⟩) (show n + 1 - (j + 1) < n + 1 - j by omega) _ _ _ (lv_sub hl [0, 2, 3, 4, 5, 6] rfl) hP hD hS
            · rw [nw_eq0 (by omega)] at hc8
              refine lv_iconst (v := nI 1) hx hb d_Mod_fits_142 (by decide) ?_
              refine lv_goto hx hb d_Mod_fits_143 (tgt := 181) (by decide) ?_
              refine nw_ti (y := nI ((nw_M I (fun k => X (i * 60 + k)) (a + 1) j).toNat)) (congrArg nI (by rw [nw_M_rs (by omega) hc6, nw_bf.mp hc7, nw_bt.mp hc8]; rfl)) ?_
              have z9 := nw_b2 (nw_M I (fun k => X (i * 60 + k)) (a + 1) j)
              refine nw_zast hx hb hK hP hD hS 5 2 rfl rfl (k := j) (v := ((nw_M I (fun k => X (i * 60 + k)) (a + 1) j).toNat)) (by omega) (by first | decide | omega) (by omega) d_Mod_fits_181 (fun H locs hP hD hS => ?_)
              replace hP : va_P (dC, dI) nw_cls [(hM, .inr (1, [.ref ai, .ref aw, .ref ar, .ref al, .ref aL, .ref aD, .ref ac, .ref af, .ref ap, .ref an, .ref ax, .int (nI isz), .int (nI wn), .int (nI chn), .int (nI rn), .int (nI th)])), (ai, nw_ai cB 60 I), (aw, nw_ai cB 60000 X), (al, nw_ai cI 1000 Ln), (an, nw_ai cZ 61 f), (ax, nw_ai cZ 61 (va_up g j ((nw_M I (fun k => X (i * 60 + k)) (a + 1) j).toNat)))] H := hP
              replace hD : va_D A [(hM, .inr (1, [.ref ai, .ref aw, .ref ar, .ref al, .ref aL, .ref aD, .ref ac, .ref af, .ref ap, .ref an, .ref ax, .int (nI isz), .int (nI wn), .int (nI chn), .int (nI rn), .int (nI th)])), (ai, nw_ai cB 60 I), (aw, nw_ai cB 60000 X), (al, nw_ai cI 1000 Ln), (an, nw_ai cZ 61 f), (ax, nw_ai cZ 61 (va_up g j ((nw_M I (fun k => X (i * 60 + k)) (a + 1) j).toNat)))] := hD
              refine lv_iinc (v := nI (j + 1)) hx hb d_Mod_fits_182 hl (k := 1) rfl (nI_add j 1) (by decide) rfl (fun ls hl => ?_)
              have hl : lv_has ls 7 [(5, .int (nI (j + 1))), (6, .int (nI (I (j - 1)))), (4, .int (nI (X ((i * 60) + a)))), (3, .int (nI a)), (0, .ref hM), (1, .int (nI i)), (2, .int (nI n))] := hl
              refine lv_goto hx hb d_Mod_fits_185 (tgt := 90) (by decide) ?_
              exact ih3 (j + 1, va_up g j ((nw_M I (fun k => X (i * 60 + k)) (a + 1) j).toNat)) (⟨by omega, by omega, fun t h => by
                by_cases e : t = j
                · rw [e]; exact va_up_self g _ _
                · exact (va_up_ne g _ e).trans (hG t (by omega))⟩) (show n + 1 - (j + 1) < n + 1 - j by omega) _ _ _ (lv_sub hl [0, 2, 3, 4, 5, 6] rfl) hP hD hS
  · rw [nI_ltI (by omega) (by omega)] at hc1
    refine lv_aload_n hx hb d_Mod_fits_14 rfl (lv_at hl 1 rfl) ?_
    refine va_get (D := (dC, dI)) (ci := 1) (v := .ref an) (C := R_Mod) (T := F_Mod) (N := 16) hx hb hts hin_Mod hown hK hP 0 rfl rfl 9 (by decide) (hts _ (nw_mc 185 rfl)) (fun _ h9 => h9) rfl d_Mod_fits_15 ?_
    refine lv_iload_n hx hb d_Mod_fits_18 rfl (lv_at hl 0 rfl) ?_
    refine lv_aload_n hx hb d_Mod_fits_19 rfl (lv_at hl 1 rfl) ?_
    refine va_get (D := (dC, dI)) (ci := 1) (v := .ref an) (C := R_Mod) (T := F_Mod) (N := 16) hx hb hts hin_Mod hown hK hP 0 rfl rfl 9 (by decide) (hts _ (nw_mc 185 rfl)) (fun _ h9 => h9) rfl d_Mod_fits_20 ?_
    refine lv_iload_n hx hb d_Mod_fits_23 rfl (lv_at hl 0 rfl) ?_
    refine lv_iconst (v := nI 1) hx hb d_Mod_fits_24 (by decide) ?_
    refine lv_isub hx hb d_Mod_fits_25 ?_
    refine nw_ti (pk_sub (a := j) (b := 1) (by omega)) ?_
    have z1 := nw_b2 (nw_M I (fun k => X (i * 60 + k)) 0 (j - 1))
    refine nw_zald hx hb hK hP 4 2 rfl rfl (k := (j - 1)) (by omega) (by first | decide | omega) d_Mod_fits_26 ?_
    refine nw_ti (y := nI ((nw_M I (fun k => X (i * 60 + k)) 0 (j - 1)).toNat)) (congrArg nI (hT _ (by omega))) ?_
    refine lv_if_eq hx hb d_Mod_fits_27 (tgt := 47) (by decide) (fun hc2 => ?_) (fun hc2 => ?_)
    · rw [nw_eq0 (by omega)] at hc2
      refine lv_iconst (v := nI 0) hx hb d_Mod_fits_47 (by decide) ?_
      refine nw_ti (y := nI ((nw_M I (fun k => X (i * 60 + k)) 0 j).toNat)) (congrArg nI (by rw [nw_M_r0 _ _ (by omega), nw_bf.mp hc2]; rfl)) ?_
      have z9 := nw_b2 (nw_M I (fun k => X (i * 60 + k)) 0 j)
      refine nw_zast hx hb hK hP hD hS 4 2 rfl rfl (k := j) (v := ((nw_M I (fun k => X (i * 60 + k)) 0 j).toNat)) (by omega) (by first | decide | omega) (by omega) d_Mod_fits_48 (fun H locs hP hD hS => ?_)
      replace hP : va_P (dC, dI) nw_cls [(hM, .inr (1, [.ref ai, .ref aw, .ref ar, .ref al, .ref aL, .ref aD, .ref ac, .ref af, .ref ap, .ref an, .ref ax, .int (nI isz), .int (nI wn), .int (nI chn), .int (nI rn), .int (nI th)])), (ai, nw_ai cB 60 I), (aw, nw_ai cB 60000 X), (al, nw_ai cI 1000 Ln), (an, nw_ai cZ 61 (va_up f j ((nw_M I (fun k => X (i * 60 + k)) 0 j).toNat))), (ax, nw_ai cZ 61 NE)] H := hP
      replace hD : va_D A [(hM, .inr (1, [.ref ai, .ref aw, .ref ar, .ref al, .ref aL, .ref aD, .ref ac, .ref af, .ref ap, .ref an, .ref ax, .int (nI isz), .int (nI wn), .int (nI chn), .int (nI rn), .int (nI th)])), (ai, nw_ai cB 60 I), (aw, nw_ai cB 60000 X), (al, nw_ai cI 1000 Ln), (an, nw_ai cZ 61 (va_up f j ((nw_M I (fun k => X (i * 60 + k)) 0 j).toNat))), (ax, nw_ai cZ 61 NE)] := hD
      refine lv_iinc (v := nI (j + 1)) hx hb d_Mod_fits_49 hl (k := 0) rfl (nI_add j 1) (by decide) rfl (fun ls hl => ?_)
      have hl : lv_has ls 7 [(3, .int (nI (j + 1))), (0, .ref hM), (1, .int (nI i)), (2, .int (nI n))] := hl
      refine lv_goto hx hb d_Mod_fits_52 (tgt := 9) (by decide) ?_
      exact ih1 (j + 1, va_up f j ((nw_M I (fun k => X (i * 60 + k)) 0 j).toNat)) (⟨by omega, by omega, fun t h => by
        by_cases e : t = j
        · rw [e]; exact va_up_self f _ _
        · exact (va_up_ne f _ e).trans (hT t (by omega))⟩) (show n + 1 - (j + 1) < n + 1 - j by omega) _ _ _ hl hP hD hS
    · rw [nw_eq0 (by omega)] at hc2
      refine lv_aload_n hx hb d_Mod_fits_30 rfl (lv_at hl 1 rfl) ?_
      refine va_get (D := (dC, dI)) (ci := 1) (v := .ref ai) (C := R_Mod) (T := F_Mod) (N := 16) hx hb hts hin_Mod hown hK hP 0 rfl rfl 0 (by decide) (hts _ (nw_mc 173 rfl)) (fun _ h9 => h9) rfl d_Mod_fits_31 ?_
      refine lv_iload_n hx hb d_Mod_fits_34 rfl (lv_at hl 0 rfl) ?_
      refine lv_iconst (v := nI 1) hx hb d_Mod_fits_35 (by decide) ?_
      refine lv_isub hx hb d_Mod_fits_36 ?_
      refine nw_ti (pk_sub (a := j) (b := 1) (by omega)) ?_
      have y1 := hI0 (j - 1)
      refine nw_bald hx hb hK hP 1 0 rfl rfl (k := (j - 1)) (by omega) (by first | decide | omega) d_Mod_fits_37 ?_
      refine lv_bipush (v := nI 42) hx hb d_Mod_fits_38 (by decide) ?_
      refine lv_icmp_ne hx hb d_Mod_fits_40 (tgt := 47) (by decide) (fun hc3 => ?_) (fun hc3 => ?_)
      · rw [nI_eq (by omega) (by omega)] at hc3
        refine lv_iconst (v := nI 0) hx hb d_Mod_fits_47 (by decide) ?_
        refine nw_ti (y := nI ((nw_M I (fun k => X (i * 60 + k)) 0 j).toNat)) (congrArg nI (by rw [nw_M_r0 _ _ (by omega), nw_bt.mp hc2, decide_eq_false hc3]; rfl)) ?_
        have z9 := nw_b2 (nw_M I (fun k => X (i * 60 + k)) 0 j)
        refine nw_zast hx hb hK hP hD hS 4 2 rfl rfl (k := j) (v := ((nw_M I (fun k => X (i * 60 + k)) 0 j).toNat)) (by omega) (by first | decide | omega) (by omega) d_Mod_fits_48 (fun H locs hP hD hS => ?_)
        replace hP : va_P (dC, dI) nw_cls [(hM, .inr (1, [.ref ai, .ref aw, .ref ar, .ref al, .ref aL, .ref aD, .ref ac, .ref af, .ref ap, .ref an, .ref ax, .int (nI isz), .int (nI wn), .int (nI chn), .int (nI rn), .int (nI th)])), (ai, nw_ai cB 60 I), (aw, nw_ai cB 60000 X), (al, nw_ai cI 1000 Ln), (an, nw_ai cZ 61 (va_up f j ((nw_M I (fun k => X (i * 60 + k)) 0 j).toNat))), (ax, nw_ai cZ 61 NE)] H := hP
        replace hD : va_D A [(hM, .inr (1, [.ref ai, .ref aw, .ref ar, .ref al, .ref aL, .ref aD, .ref ac, .ref af, .ref ap, .ref an, .ref ax, .int (nI isz), .int (nI wn), .int (nI chn), .int (nI rn), .int (nI th)])), (ai, nw_ai cB 60 I), (aw, nw_ai cB 60000 X), (al, nw_ai cI 1000 Ln), (an, nw_ai cZ 61 (va_up f j ((nw_M I (fun k => X (i * 60 + k)) 0 j).toNat))), (ax, nw_ai cZ 61 NE)] := hD
        refine lv_iinc (v := nI (j + 1)) hx hb d_Mod_fits_49 hl (k := 0) rfl (nI_add j 1) (by decide) rfl (fun ls hl => ?_)
        have hl : lv_has ls 7 [(3, .int (nI (j + 1))), (0, .ref hM), (1, .int (nI i)), (2, .int (nI n))] := hl
        refine lv_goto hx hb d_Mod_fits_52 (tgt := 9) (by decide) ?_
        exact ih1 (j + 1, va_up f j ((nw_M I (fun k => X (i * 60 + k)) 0 j).toNat)) (⟨by omega, by omega, fun t h => by
          by_cases e : t = j
          · rw [e]; exact va_up_self f _ _
          · exact (va_up_ne f _ e).trans (hT t (by omega))⟩) (show n + 1 - (j + 1) < n + 1 - j by omega) _ _ _ hl hP hD hS
      · rw [nI_eq (by omega) (by omega)] at hc3
        refine lv_iconst (v := nI 1) hx hb d_Mod_fits_43 (by decide) ?_
        refine lv_goto hx hb d_Mod_fits_44 (tgt := 48) (by decide) ?_
        refine nw_ti (y := nI ((nw_M I (fun k => X (i * 60 + k)) 0 j).toNat)) (congrArg nI (by rw [nw_M_r0 _ _ (by omega), nw_bt.mp hc2, decide_eq_true hc3]; rfl)) ?_
        have z9 := nw_b2 (nw_M I (fun k => X (i * 60 + k)) 0 j)
        refine nw_zast hx hb hK hP hD hS 4 2 rfl rfl (k := j) (v := ((nw_M I (fun k => X (i * 60 + k)) 0 j).toNat)) (by omega) (by first | decide | omega) (by omega) d_Mod_fits_48 (fun H locs hP hD hS => ?_)
        replace hP : va_P (dC, dI) nw_cls [(hM, .inr (1, [.ref ai, .ref aw, .ref ar, .ref al, .ref aL, .ref aD, .ref ac, .ref af, .ref ap, .ref an, .ref ax, .int (nI isz), .int (nI wn), .int (nI chn), .int (nI rn), .int (nI th)])), (ai, nw_ai cB 60 I), (aw, nw_ai cB 60000 X), (al, nw_ai cI 1000 Ln), (an, nw_ai cZ 61 (va_up f j ((nw_M I (fun k => X (i * 60 + k)) 0 j).toNat))), (ax, nw_ai cZ 61 NE)] H := hP
        replace hD : va_D A [(hM, .inr (1, [.ref ai, .ref aw, .ref ar, .ref al, .ref aL, .ref aD, .ref ac, .ref af, .ref ap, .ref an, .ref ax, .int (nI isz), .int (nI wn), .int (nI chn), .int (nI rn), .int (nI th)])), (ai, nw_ai cB 60 I), (aw, nw_ai cB 60000 X), (al, nw_ai cI 1000 Ln), (an, nw_ai cZ 61 (va_up f j ((nw_M I (fun k => X (i * 60 + k)) 0 j).toNat))), (ax, nw_ai cZ 61 NE)] := hD
        refine lv_iinc (v := nI (j + 1)) hx hb d_Mod_fits_49 hl (k := 0) rfl (nI_add j 1) (by decide) rfl (fun ls hl => ?_)
        have hl : lv_has ls 7 [(3, .int (nI (j + 1))), (0, .ref hM), (1, .int (nI i)), (2, .int (nI n))] := hl
        refine lv_goto hx hb d_Mod_fits_52 (tgt := 9) (by decide) ?_
        exact ih1 (j + 1, va_up f j ((nw_M I (fun k => X (i * 60 + k)) 0 j).toNat)) (⟨by omega, by omega, fun t h => by
          by_cases e : t = j
          · rw [e]; exact va_up_self f _ _
          · exact (va_up_ne f _ e).trans (hT t (by omega))⟩) (show n + 1 - (j + 1) < n + 1 - j by omega) _ _ _ hl hP hD hS
