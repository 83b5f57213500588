set_option maxHeartbeats 4000000 in
set_option maxRecDepth 100000 in
theorem c_Mod_type_bad (l : Launch) (dC : Nat → ClassId) (dI : Nat → Nat → Nat) (sz : Nat) (cB : ClassId) (hM ai aw ar al aL aD ac af ap an ax isz wn chn rn th : Nat) (I : Nat → Nat) (x1 x2 : Int64) (b : Nat → Nat) (hb9 : b = (fun k => if k < 8 then nw_by x1 (56 - k % 8 * 8) else nw_by x2 (56 - k % 8 * 8))) (hn : isz ≤ 60) (hbad : ∃ k, k < 16 ∧ (b k ≠ 0 ∧ (b k < 33 ∨ 126 < b k))) : Met l y_Mod_type w_Mod_type ({ frames := 0, cells := 0, slots := 0, locals := 0 }) (nw_Pw [.ref hM, .long x1, .long x2] (dC, dI) nw_cls [(cB, .byte)] [(hM, .inr (1, [.ref ai, .ref aw, .ref ar, .ref al, .ref aL, .ref aD, .ref ac, .ref af, .ref ap, .ref an, .ref ax, .int (nI isz), .int (nI wn), .int (nI chn), .int (nI rn), .int (nI th)])), (ai, nw_ai cB 60 I)] sz) (va_Qi (fun (r : Int32) (_ : Unit) => r = nI 0) (nw_B (dC, dI) nw_cls (va_A [(hM, .inr (1, [.ref ai, .ref aw, .ref ar, .ref al, .ref aL, .ref aD, .ref ac, .ref af, .ref ap, .ref an, .ref ax, .int (nI isz), .int (nI wn), .int (nI chn), .int (nI rn), .int (nI th)])), (ai, nw_ai cB 60 I)] sz) (fun _ : Unit => [(hM, .inr (1, [.ref ai, .ref aw, .ref ar, .ref al, .ref aL, .ref aD, .ref ac, .ref af, .ref ap, .ref an, .ref ax, .int (nI isz), .int (nI wn), .int (nI chn), .int (nI rn), .int (nI 1)])), (ai, nw_ai cB 60 I)])) (va_A [(hM, .inr (1, [.ref ai, .ref aw, .ref ar, .ref al, .ref aL, .ref aD, .ref ac, .ref af, .ref ap, .ref an, .ref ax, .int (nI isz), .int (nI wn), .int (nI chn), .int (nI rn), .int (nI th)])), (ai, nw_ai cB 60 I)] sz)) 0 0 (va_A [(hM, .inr (1, [.ref ai, .ref aw, .ref ar, .ref al, .ref aL, .ref aD, .ref ac, .ref af, .ref ap, .ref an, .ref ax, .int (nI isz), .int (nI wn), .int (nI chn), .int (nI rn), .int (nI th)])), (ai, nw_ai cB 60 I)] sz) := by
  refine Met.ofW (cc := b_Mod_type) (maxL := 8) (ret := (some .int)) (by decide) rfl ?_
  intro p e s m args below meth cd s₁ B hml hv0
  obtain ⟨rfl, hsz, hP, hK, hD0⟩ := hv0
  have hx := B.exec
  have hb := B.bytes
  have hr := B.returns
  have hts := atoms_spec (ws := w_Mod_type) B.pre
  have hown : s.vm.findClass R_Mod = some m.cls := findClass_of_methodNamed B.named
  have hlocks := B.notSynchronized
  subst hsz
  have hD := hD0.self (sz := s.heap.size)
  generalize hAe : va_A [(hM, .inr (1, [.ref ai, .ref aw, .ref ar, .ref al, .ref aL, .ref aD, .ref ac, .ref af, .ref ap, .ref an, .ref ax, .int (nI isz), .int (nI wn), .int (nI chn), .int (nI rn), .int (nI th)])), (ai, nw_ai cB 60 I)] s.heap.size = A at hD ⊢
  have hA : ∀ q : Nat, s.heap.size ≤ q → A q := fun q h => by rw [← hAe]; exact Or.inr h
  have hS : va_S A s.heap s.heap [] := va_S.rf
  have hl := lv_entry ([.ref hM, .long x1, .long x2]) (n := 8) (Nat.le_of_ble_eq_true rfl)
  rw [lg_entry_eq]
  generalize (lg_sl ([.ref hM, .long x1, .long x2]) ++ List.replicate (8 - (lg_sl ([.ref hM, .long x1, .long x2])).length) Slot.unset).toArray = ls at hl ⊢
  have hl : lv_has ls 8 [(0, .ref hM), (1, .long x1), (3, .long x2)] := hl
  have hbl : ∀ k, b k < 256 := fun k => by
    rw [hb9]; dsimp only
    split <;> exact nw_by_lt _ _
  refine lv_iconst (v := nI 0) hx hb d_Mod_type_0 (by decide) ?_
  refine lv_istore hx hb d_Mod_type_1 hl (by decide) rfl (fun ls hl => ?_)
  replace hl : lv_has ls 8 [(5, .int (nI 0)), (0, .ref hM), (1, .long x1), (3, .long x2)] := hl
  refine lv_aload_n hx hb d_Mod_type_3 rfl (lv_at hl 1 rfl) ?_
  refine lv_iconst (v := nI 0) hx hb d_Mod_type_4 (by decide) ?_
  refine va_put (D := (dC, dI)) (ci := 1) (v := .int (nI 0)) (ty := .int) (C := R_Mod) (T := F_Mod) (N := 16) hx hb hts hin_Mod t_Mod t_Mod_ok n_Mod hown hK hP hD hS 0 rfl rfl 15 (by decide) (hts _ (nw_mc 187 rfl)) (fun _ h9 => h9) rfl (by decide +kernel) rfl rfl (Nat.le_of_ble_eq_true rfl) d_Mod_type_5 (fun H locs hP hD hS => ?_)
  replace hP : va_P (dC, dI) nw_cls [(hM, .inr (1, [.ref ai, .ref aw, .ref ar, .ref al, .ref aL, .ref aD, .ref ac, .ref af, .ref ap, .ref an, .ref ax, .int (nI isz), .int (nI wn), .int (nI chn), .int (nI rn), .int (nI 0)])), (ai, nw_ai cB 60 I)] H := hP
  replace hD : va_D A [(hM, .inr (1, [.ref ai, .ref aw, .ref ar, .ref al, .ref aL, .ref aD, .ref ac, .ref af, .ref ap, .ref an, .ref ax, .int (nI isz), .int (nI wn), .int (nI chn), .int (nI rn), .int (nI 0)])), (ai, nw_ai cB 60 I)] := hD
  refine lv_iconst (v := nI 0) hx hb d_Mod_type_8 (by decide) ?_
  refine lv_istore hx hb d_Mod_type_9 hl (by decide) rfl (fun ls hl => ?_)
  replace hl : lv_has ls 8 [(6, .int (nI 0)), (5, .int (nI 0)), (0, .ref hM), (1, .long x1), (3, .long x2)] := hl
  refine nw_loopW (σ := Nat × Nat) (fun x => match x with | (k, t) => k ≤ 16 ∧ ((t = 0 ∧ ∀ i, i < k → ¬ (b i ≠ 0 ∧ (b i < 33 ∨ 126 < b i))) ∨ (t = 1 ∧ ∃ i, i < k ∧ (b i ≠ 0 ∧ (b i < 33 ∨ 126 < b i))))) (fun x => match x with | (k, t) => [(6, .int (nI k)), (5, .int (nI (nw_cnt (fun i => b i ≠ 0) k))), (0, .ref hM), (1, .long x1), (3, .long x2)]) (fun x => match x with | (k, t) => [(hM, .inr (1, [.ref ai, .ref aw, .ref ar, .ref al, .ref aL, .ref aD, .ref ac, .ref af, .ref ap, .ref an, .ref ax, .int (nI isz), .int (nI wn), .int (nI chn), .int (nI rn), .int (nI t)])), (ai, nw_ai cB 60 I)]) (fun x => match x with | (k, t) => 16 - k) (fun x hA1 ih1 ls H locs hl hP hD hS => ?_) (0, 0) (⟨Nat.zero_le _, Or.inl ⟨rfl, fun i h => absurd h (Nat.not_lt_zero i)⟩⟩) hl hP hD hS
  obtain ⟨k, t⟩ := x
  replace hA1 : k ≤ 16 ∧ ((t = 0 ∧ ∀ i, i < k → ¬ (b i ≠ 0 ∧ (b i < 33 ∨ 126 < b i))) ∨ (t = 1 ∧ ∃ i, i < k ∧ (b i ≠ 0 ∧ (b i < 33 ∨ 126 < b i)))) := hA1
  replace hl : lv_has ls 8 [(6, .int (nI k)), (5, .int (nI (nw_cnt (fun i => b i ≠ 0) k))), (0, .ref hM), (1, .long x1), (3, .long x2)] := hl
  replace hP : va_P (dC, dI) nw_cls [(hM, .inr (1, [.ref ai, .ref aw, .ref ar, .ref al, .ref aL, .ref aD, .ref ac, .ref af, .ref ap, .ref an, .ref ax, .int (nI isz), .int (nI wn), .int (nI chn), .int (nI rn), .int (nI t)])), (ai, nw_ai cB 60 I)] H := hP
  replace hD : va_D A [(hM, .inr (1, [.ref ai, .ref aw, .ref ar, .ref al, .ref aL, .ref aD, .ref ac, .ref af, .ref ap, .ref an, .ref ax, .int (nI isz), .int (nI wn), .int (nI chn), .int (nI rn), .int (nI t)])), (ai, nw_ai cB 60 I)] := hD
  obtain ⟨hk, ht⟩ := hA1
  have hcn := nw_cnt_le (fun i => b i ≠ 0) k
  have hbk := hbl k
  refine lv_iload hx hb d_Mod_type_11 (lv_at hl 0 rfl) ?_
  refine lv_bipush (v := nI 16) hx hb d_Mod_type_13 (by decide) ?_
  refine lv_icmp_ge hx hb d_Mod_type_15 (tgt := 87) (by decide) (fun q7 => ?_) (fun q7 => ?_)
  · rw [nI_leI (by omega) (by omega)] at q7
    have hk9 : k = 16 := by omega
    rw [hk9] at hl ht hcn
    have hl : lv_has ls 8 [(6, .int (nI 16)), (5, .int (nI (nw_cnt (fun i => b i ≠ 0) 16))), (0, .ref hM), (1, .long x1), (3, .long x2)] := hl
    obtain ⟨ht0, hz⟩ | ⟨ht0, hz⟩ := ht
    · exact absurd hbad (fun ⟨i, h1, h2⟩ => hz i h1 h2)
    · rw [ht0] at hP hD
      refine lv_aload_n hx hb d_Mod_type_87 rfl (lv_at hl 2 rfl) ?_
      refine va_get (D := (dC, dI)) (ci := 1) (v := .int (nI 1)) (C := R_Mod) (T := F_Mod) (N := 16) hx hb hts hin_Mod hown hK hP 0 rfl rfl 15 (by decide) (hts _ (nw_mc 187 rfl)) (fun _ h9 => h9) rfl d_Mod_type_88 ?_
      refine lv_if_ne hx hb d_Mod_type_91 (tgt := 111) (by decide) (fun s1 => ?_) (fun s1 => ?_)
      · rw [nw_eq0 (by omega)] at s1
        refine lv_aload_n hx hb d_Mod_type_111 rfl (lv_at hl 2 rfl) ?_
        refine va_get (D := (dC, dI)) (ci := 1) (v := .int (nI 1)) (C := R_Mod) (T := F_Mod) (N := 16) hx hb hts hin_Mod hown hK hP 0 rfl rfl 15 (by decide) (hts _ (nw_mc 187 rfl)) (fun _ h9 => h9) rfl d_Mod_type_112 ?_
        refine lv_if_eq hx hb d_Mod_type_115 (tgt := 120) (by decide) (fun s2 => ?_) (fun s2 => ?_)
        · rw [nw_eq0 (by omega)] at s2
          omega
        · rw [nw_eq0 (by omega)] at s2
          refine lv_iconst (v := nI 0) hx hb d_Mod_type_118 (by decide) ?_
          exact W.iret (v := nI 0) hx hb hr (fun t ht hW => ⟨⟨_, (), rfl, rfl, by rw [ht]; exact hP, hD⟩, hS.F ht⟩) hS.2.2 d_Mod_type_119
      · rw [nw_eq0 (by omega)] at s1
        omega
  · rw [nI_leI (by omega) (by omega)] at q7
    refine lv_iload hx hb d_Mod_type_18 (lv_at hl 0 rfl) ?_
    refine lv_bipush (v := nI 8) hx hb d_Mod_type_20 (by decide) ?_
    refine lv_icmp_ge hx hb d_Mod_type_22 (tgt := 29) (by decide) (fun q8 => ?_) (fun q8 => ?_)
    · rw [nI_leI (by omega) (by omega)] at q8
      refine lv_lload_n hx hb d_Mod_type_29 rfl (lv_at hl 4 rfl) ?_
      refine lv_bipush (v := nI 56) hx hb d_Mod_type_30 (by decide) ?_
      refine lv_iload hx hb d_Mod_type_32 (lv_at hl 0 rfl) ?_
      refine lv_bipush (v := nI 8) hx hb d_Mod_type_34 (by decide) ?_
      refine lv_irem hx hb d_Mod_type_36 (by decide) ?_
      refine nw_ti (pk_rem (a := k) (d := 8) (by omega) (by decide) (by decide)) ?_
      refine lv_bipush (v := nI 8) hx hb d_Mod_type_37 (by decide) ?_
      refine lv_imul hx hb d_Mod_type_39 ?_
      refine nw_ti (pk_mul (k % 8) 8) ?_
      refine lv_isub hx hb d_Mod_type_40 ?_
      refine nw_ti (pk_sub (a := 56) (b := ((k % 8) * 8)) (by omega)) ?_
      refine nw_ti (y := nI (56 - k % 8 * 8)) (congrArg nI (show 56 - ((k % 8) * 8) = 56 - k % 8 * 8 by omega)) ?_
      refine lv_lushr (v := (x2.toUInt64 >>> ((nI (56 - k % 8 * 8)).toInt64.toUInt64 &&& Int64.toUInt64 63)).toInt64) hx hb d_Mod_type_41 (rfl) ?_
      refine lv_l2i (v := (x2.toUInt64 >>> ((nI (56 - k % 8 * 8)).toInt64.toUInt64 &&& Int64.toUInt64 63)).toInt64.toInt32) hx hb d_Mod_type_42 (rfl) ?_
      refine lv_sipush (v := nI 255) hx hb d_Mod_type_43 (by decide) ?_
      refine lv_iand hx hb d_Mod_type_46 ?_
      refine nw_ti (y := nI (b k)) ((nw_byte x2 (sh := 56 - k % 8 * 8) (by omega)).trans (congrArg nI (by rw [hb9]; exact (if_neg (by omega)).symm))) ?_
      refine lv_istore hx hb d_Mod_type_47 hl (by decide) rfl (fun ls hl => ?_)
      replace hl : lv_has ls 8 [(7, .int (nI (b k))), (6, .int (nI k)), (5, .int (nI (nw_cnt (fun i => b i ≠ 0) k))), (0, .ref hM), (1, .long x1), (3, .long x2)] := hl
      refine lv_iload hx hb d_Mod_type_49 (lv_at hl 0 rfl) ?_
      refine lv_if_eq hx hb d_Mod_type_51 (tgt := 73) (by decide) (fun r1 => ?_) (fun r1 => ?_)
      · rw [nw_eq0 (by omega)] at r1
        have hgood : ¬ (b k ≠ 0 ∧ (b k < 33 ∨ 126 < b k)) := fun h => h.1 r1
        refine lv_iload hx hb d_Mod_type_73 (lv_at hl 0 rfl) ?_
        refine lv_if_eq hx hb d_Mod_type_75 (tgt := 81) (by decide) (fun q9 => ?_) (fun q9 => ?_)
        · rw [nw_eq0 (by omega)] at q9
          rw [← nw_cnt_neg (f := fun i => b i ≠ 0) (n := k) (fun h => h q9)] at hl
          refine lv_iinc (v := nI (k + 1)) hx hb d_Mod_type_81 hl (k := 1) rfl (nI_add k 1) (by decide) rfl (fun ls hl => ?_)
          have hl : lv_has ls 8 [(6, .int (nI (k + 1))), (7, .int (nI (b k))), (5, .int (nI (nw_cnt (fun i => b i ≠ 0) (k + 1)))), (0, .ref hM), (1, .long x1), (3, .long x2)] := hl
          refine lv_goto hx hb d_Mod_type_84 (tgt := 11) (by decide) ?_
          exact ih1 (k + 1, t) (⟨by omega, by
            rcases ht with ⟨h1, h2⟩ | ⟨h1, i, h2, h3⟩
            · refine Or.inl ⟨h1, fun i hi => ?_⟩
              by_cases e : i = k
              · rw [e]; exact hgood
              · exact h2 i (by omega)
            · exact Or.inr ⟨h1, i, by omega, h3⟩⟩) (show 16 - (k + 1) < 16 - k by omega) _ _ _ (lv_sub hl [0, 2, 3, 4, 5] rfl) hP hD hS
        · rw [nw_eq0 (by omega)] at q9
          refine lv_iinc (v := nI ((nw_cnt (fun i => b i ≠ 0) k) + 1)) hx hb d_Mod_type_78 hl (k := 2) rfl (nI_add (nw_cnt (fun i => b i ≠ 0) k) 1) (by decide) rfl (fun ls hl => ?_)
          have hl : lv_has ls 8 [(5, .int (nI ((nw_cnt (fun i => b i ≠ 0) k) + 1))), (7, .int (nI (b k))), (6, .int (nI k)), (0, .ref hM), (1, .long x1), (3, .long x2)] := hl
          rw [← nw_cnt_pos (f := fun i => b i ≠ 0) (n := k) q9] at hl
          have hl : lv_has ls 8 [(5, .int (nI (nw_cnt (fun i => b i ≠ 0) (k + 1)))), (7, .int (nI (b k))), (6, .int (nI k)), (0, .ref hM), (1, .long x1), (3, .long x2)] := hl
          refine lv_iinc (v := nI (k + 1)) hx hb d_Mod_type_81 hl (k := 2) rfl (nI_add k 1) (by decide) rfl (fun ls hl => ?_)
          have hl : lv_has ls 8 [(6, .int (nI (k + 1))), (5, .int (nI (nw_cnt (fun i => b i ≠ 0) (k + 1)))), (7, .int (nI (b k))), (0, .ref hM), (1, .long x1), (3, .long x2)] := hl
          refine lv_goto hx hb d_Mod_type_84 (tgt := 11) (by decide) ?_
          exact ih1 (k + 1, t) (⟨by omega, by
            rcases ht with ⟨h1, h2⟩ | ⟨h1, i, h2, h3⟩
            · refine Or.inl ⟨h1, fun i hi => ?_⟩
              by_cases e : i = k
              · rw [e]; exact hgood
              · exact h2 i (by omega)
            · exact Or.inr ⟨h1, i, by omega, h3⟩⟩) (show 16 - (k + 1) < 16 - k by omega) _ _ _ (lv_sub hl [0, 1, 3, 4, 5] rfl) hP hD hS
      · rw [nw_eq0 (by omega)] at r1
        refine lv_iload hx hb d_Mod_type_54 (lv_at hl 0 rfl) ?_
        refine lv_bipush (v := nI 33) hx hb d_Mod_type_56 (by decide) ?_
        refine lv_icmp_lt hx hb d_Mod_type_58 (tgt := 68) (by decide) (fun r2 => ?_) (fun r2 => ?_)
        · rw [nI_ltI (by omega) (by omega)] at r2
          have hbadk : (b k ≠ 0 ∧ (b k < 33 ∨ 126 < b k)) := ⟨r1, Or.inl r2⟩
          refine lv_aload_n hx hb d_Mod_type_68 rfl (lv_at hl 3 rfl) ?_
          refine lv_iconst (v := nI 1) hx hb d_Mod_type_69 (by decide) ?_
          refine va_put (D := (dC, dI)) (ci := 1) (v := .int (nI 1)) (ty := .int) (C := R_Mod) (T := F_Mod) (N := 16) hx hb hts hin_Mod t_Mod t_Mod_ok n_Mod hown hK hP hD hS 0 rfl rfl 15 (by decide) (hts _ (nw_mc 187 rfl)) (fun _ h9 => h9) rfl (by decide +kernel) rfl rfl (Nat.le_of_ble_eq_true rfl) d_Mod_type_70 (fun H locs hP hD hS => ?_)
          replace hP : va_P (dC, dI) nw_cls [(hM, .inr (1, [.ref ai, .ref aw, .ref ar, .ref al, .ref aL, .ref aD, .ref ac, .ref af, .ref ap, .ref an, .ref ax, .int (nI isz), .int (nI wn), .int (nI chn), .int (nI rn), .int (nI 1)])), (ai, nw_ai cB 60 I)] H := hP
          replace hD : va_D A [(hM, .inr (1, [.ref ai, .ref aw, .ref ar, .ref al, .ref aL, .ref aD, .ref ac, .ref af, .ref ap, .ref an, .ref ax, .int (nI isz), .int (nI wn), .int (nI chn), .int (nI rn), .int (nI 1)])), (ai, nw_ai cB 60 I)] := hD
          refine lv_iload hx hb d_Mod_type_73 (lv_at hl 0 rfl) ?_
          refine lv_if_eq hx hb d_Mod_type_75 (tgt := 81) (by decide) (fun q9 => ?_) (fun q9 => ?_)
          · rw [nw_eq0 (by omega)] at q9
            rw [← nw_cnt_neg (f := fun i => b i ≠ 0) (n := k) (fun h => h q9)] at hl
            refine lv_iinc (v := nI (k + 1)) hx hb d_Mod_type_81 hl (k := 1) rfl (nI_add k 1) (by decide) rfl (fun ls hl => ?_)
            have hl : lv_has ls 8 [(6, .int (nI (k + 1))), (7, .int (nI (b k))), (5, .int (nI (nw_cnt (fun i => b i ≠ 0) (k + 1)))), (0, .ref hM), (1, .long x1), (3, .long x2)] := hl
            refine lv_goto hx hb d_Mod_type_84 (tgt := 11) (by decide) ?_
            exact ih1 (k + 1, 1) (⟨by omega, Or.inr ⟨rfl, k, by omega, hbadk⟩⟩) (show 16 - (k + 1) < 16 - k by omega) _ _ _ (lv_sub hl [0, 2, 3, 4, 5] rfl) hP hD hS
          · rw [nw_eq0 (by omega)] at q9
            refine lv_iinc (v := nI ((nw_cnt (fun i => b i ≠ 0) k) + 1)) hx hb d_Mod_type_78 hl (k := 2) rfl (nI_add (nw_cnt (fun i => b i ≠ 0) k) 1) (by decide) rfl (fun ls hl => ?_)
            have hl : lv_has ls 8 [(5, .int (nI ((nw_cnt (fun i => b i ≠ 0) k) + 1))), (7, .int (nI (b k))), (6, .int (nI k)), (0, .ref hM), (1, .long x1), (3, .long x2)] := hl
            rw [← nw_cnt_pos (f := fun i => b i ≠ 0) (n := k) q9] at hl
            have hl : lv_has ls 8 [(5, .int (nI (nw_cnt (fun i => b i ≠ 0) (k + 1)))), (7, .int (nI (b k))), (6, .int (nI k)), (0, .ref hM), (1, .long x1), (3, .long x2)] := hl
            refine lv_iinc (v := nI (k + 1)) hx hb d_Mod_type_81 hl (k := 2) rfl (nI_add k 1) (by decide) rfl (fun ls hl => ?_)
            have hl : lv_has ls 8 [(6, .int (nI (k + 1))), (5, .int (nI (nw_cnt (fun i => b i ≠ 0) (k + 1)))), (7, .int (nI (b k))), (0, .ref hM), (1, .long x1), (3, .long x2)] := hl
            refine lv_goto hx hb d_Mod_type_84 (tgt := 11) (by decide) ?_
            exact ih1 (k + 1, 1) (⟨by omega, Or.inr ⟨rfl, k, by omega, hbadk⟩⟩) (show 16 - (k + 1) < 16 - k by omega) _ _ _ (lv_sub hl [0, 1, 3, 4, 5] rfl) hP hD hS
        · rw [nI_ltI (by omega) (by omega)] at r2
          refine lv_iload hx hb d_Mod_type_61 (lv_at hl 0 rfl) ?_
          refine lv_bipush (v := nI 126) hx hb d_Mod_type_63 (by decide) ?_
          refine lv_icmp_le hx hb d_Mod_type_65 (tgt := 73) (by decide) (fun r3 => ?_) (fun r3 => ?_)
          · rw [nI_leI (by omega) (by omega)] at r3
            have hgood : ¬ (b k ≠ 0 ∧ (b k < 33 ∨ 126 < b k)) := fun h => by omega
            refine lv_iload hx hb d_Mod_type_73 (lv_at hl 0 rfl) ?_
            refine lv_if_eq hx hb d_Mod_type_75 (tgt := 81) (by decide) (fun q9 => ?_) (fun q9 => ?_)
            · rw [nw_eq0 (by omega)] at q9
              rw [← nw_cnt_neg (f := fun i => b i ≠ 0) (n := k) (fun h => h q9)] at hl
              refine lv_iinc (v := nI (k + 1)) hx hb d_Mod_type_81 hl (k := 1) rfl (nI_add k 1) (by decide) rfl (fun ls hl => ?_)
              have hl : lv_has ls 8 [(6, .int (nI (k + 1))), (7, .int (nI (b k))), (5, .int (nI (nw_cnt (fun i => b i ≠ 0) (k + 1)))), (0, .ref hM), (1, .long x1), (3, .long x2)] := hl
              refine lv_goto hx hb d_Mod_type_84 (tgt := 11) (by decide) ?_
              exact ih1 (k + 1, t) (⟨by omega, by
                rcases ht with ⟨h1, h2⟩ | ⟨h1, i, h2, h3⟩
                · refine Or.inl ⟨h1, fun i hi => ?_⟩
                  by_cases e : i = k
                  · rw [e]; exact hgood
                  · exact h2 i (by omega)
                · exact Or.inr ⟨h1, i, by omega, h3⟩⟩) (show 16 - (k + 1) < 16 - k by omega) _ _ _ (lv_sub hl [0, 2, 3, 4, 5] rfl) hP hD hS
            · rw [nw_eq0 (by omega)] at q9
              refine lv_iinc (v := nI ((nw_cnt (fun i => b i ≠ 0) k) + 1)) hx hb d_Mod_type_78 hl (k := 2) rfl (nI_add (nw_cnt (fun i => b i ≠ 0) k) 1) (by decide) rfl (fun ls hl => ?_)
              have hl : lv_has ls 8 [(5, .int (nI ((nw_cnt (fun i => b i ≠ 0) k) + 1))), (7, .int (nI (b k))), (6, .int (nI k)), (0, .ref hM), (1, .long x1), (3, .long x2)] := hl
              rw [← nw_cnt_pos (f := fun i => b i ≠ 0) (n := k) q9] at hl
              have hl : lv_has ls 8 [(5, .int (nI (nw_cnt (fun i => b i ≠ 0) (k + 1)))), (7, .int (nI (b k))), (6, .int (nI k)), (0, .ref hM), (1, .long x1), (3, .long x2)] := hl
              refine lv_iinc (v := nI (k + 1)) hx hb d_Mod_type_81 hl (k := 2) rfl (nI_add k 1) (by decide) rfl (fun ls hl => ?_)
              have hl : lv_has ls 8 [(6, .int (nI (k + 1))), (5, .int (nI (nw_cnt (fun i => b i ≠ 0) (k + 1)))), (7, .int (nI (b k))), (0, .ref hM), (1, .long x1), (3, .long x2)] := hl
              refine lv_goto hx hb d_Mod_type_84 (tgt := 11) (by decide) ?_
              exact ih1 (k + 1, t) (⟨by omega, by
                rcases ht with ⟨h1, h2⟩ | ⟨h1, i, h2, h3⟩
                · refine Or.inl ⟨h1, fun i hi => ?_⟩
                  by_cases e : i = k
                  · rw [e]; exact hgood
                  · exact h2 i (by omega)
                · exact Or.inr ⟨h1, i, by omega, h3⟩⟩) (show 16 - (k + 1) < 16 - k by omega) _ _ _ (lv_sub hl [0, 1, 3, 4, 5] rfl) hP hD hS
          · rw [nI_leI (by omega) (by omega)] at r3
            have hbadk : (b k ≠ 0 ∧ (b k < 33 ∨ 126 < b k)) := ⟨r1, Or.inr (by omega)⟩
            refine lv_aload_n hx hb d_Mod_type_68 rfl (lv_at hl 3 rfl) ?_
            refine lv_iconst (v := nI 1) hx hb d_Mod_type_69 (by decide) ?_
            refine va_put (D := (dC, dI)) (ci := 1) (v := .int (nI 1)) (ty := .int) (C := R_Mod) (T := F_Mod) (N := 16) hx hb hts hin_Mod t_Mod t_Mod_ok n_Mod hown hK hP hD hS 0 rfl rfl 15 (by decide) (hts _ (nw_mc 187 rfl)) (fun _ h9 => h9) rfl (by decide +kernel) rfl rfl (Nat.le_of_ble_eq_true rfl) d_Mod_type_70 (fun H locs hP hD hS => ?_)
            replace hP : va_P (dC, dI) nw_cls [(hM, .inr (1, [.ref ai, .ref aw, .ref ar, .ref al, .ref aL, .ref aD, .ref ac, .ref af, .ref ap, .ref an, .ref ax, .int (nI isz), .int (nI wn), .int (nI chn), .int (nI rn), .int (nI 1)])), (ai, nw_ai cB 60 I)] H := hP
            replace hD : va_D A [(hM, .inr (1, [.ref ai, .ref aw, .ref ar, .ref al, .ref aL, .ref aD, .ref ac, .ref af, .ref ap, .ref an, .ref ax, .int (nI isz), .int (nI wn), .int (nI chn), .int (nI rn), .int (nI 1)])), (ai, nw_ai cB 60 I)] := hD
            refine lv_iload hx hb d_Mod_type_73 (lv_at hl 0 rfl) ?_
            refine lv_if_eq hx hb d_Mod_type_75 (tgt := 81) (by decide) (fun q9 => ?_) (fun q9 => ?_)
            · rw [nw_eq0 (by omega)] at q9
              rw [← nw_cnt_neg (f := fun i => b i ≠ 0) (n := k) (fun h => h q9)] at hl
              refine lv_iinc (v := nI (k + 1)) hx hb d_Mod_type_81 hl (k := 1) rfl (nI_add k 1) (by decide) rfl (fun ls hl => ?_)
              have hl : lv_has ls 8 [(6, .int (nI (k + 1))), (7, .int (nI (b k))), (5, .int (nI (nw_cnt (fun i => b i ≠ 0) (k + 1)))), (0, .ref hM), (1, .long x1), (3, .long x2)] := hl
              refine lv_goto hx hb d_Mod_type_84 (tgt := 11) (by decide) ?_
              exact ih1 (k + 1, 1) (⟨by omega, Or.inr ⟨rfl, k, by omega, hbadk⟩⟩) (show 16 - (k + 1) < 16 - k by omega) _ _ _ (lv_sub hl [0, 2, 3, 4, 5] rfl) hP hD hS
            · rw [nw_eq0 (by omega)] at q9
              refine lv_iinc (v := nI ((nw_cnt (fun i => b i ≠ 0) k) + 1)) hx hb d_Mod_type_78 hl (k := 2) rfl (nI_add (nw_cnt (fun i => b i ≠ 0) k) 1) (by decide) rfl (fun ls hl => ?_)
              have hl : lv_has ls 8 [(5, .int (nI ((nw_cnt (fun i => b i ≠ 0) k) + 1))), (7, .int (nI (b k))), (6, .int (nI k)), (0, .ref hM), (1, .long x1), (3, .long x2)] := hl
              rw [← nw_cnt_pos (f := fun i => b i ≠ 0) (n := k) q9] at hl
              have hl : lv_has ls 8 [(5, .int (nI (nw_cnt (fun i => b i ≠ 0) (k + 1)))), (7, .int (nI (b k))), (6, .int (nI k)), (0, .ref hM), (1, .long x1), (3, .long x2)] := hl
              refine lv_iinc (v := nI (k + 1)) hx hb d_Mod_type_81 hl (k := 2) rfl (nI_add k 1) (by decide) rfl (fun ls hl => ?_)
              have hl : lv_has ls 8 [(6, .int (nI (k + 1))), (5, .int (nI (nw_cnt (fun i => b i ≠ 0) (k + 1)))), (7, .int (nI (b k))), (0, .ref hM), (1, .long x1), (3, .long x2)] := hl
              refine lv_goto hx hb d_Mod_type_84 (tgt := 11) (by decide) ?_
              exact ih1 (k + 1, 1) (⟨by omega, Or.inr ⟨rfl, k, by omega, hbadk⟩⟩) (show 16 - (k + 1) < 16 - k by omega) _ _ _ (lv_sub hl [0, 1, 3, 4, 5] rfl) hP hD hS
    · rw [nI_leI (by omega) (by omega)] at q8
      refine lv_lload_n hx hb d_Mod_type_25 rfl (lv_at hl 3 rfl) ?_
      refine lv_goto hx hb d_Mod_type_26 (tgt := 30) (by decide) ?_
      refine lv_bipush (v := nI 56) hx hb d_Mod_type_30 (by decide) ?_
      refine lv_iload hx hb d_Mod_type_32 (lv_at hl 0 rfl) ?_
      refine lv_bipush (v := nI 8) hx hb d_Mod_type_34 (by decide) ?_
      refine lv_irem hx hb d_Mod_type_36 (by decide) ?_
      refine nw_ti (pk_rem (a := k) (d := 8) (by omega) (by decide) (by decide)) ?_
      refine lv_bipush (v := nI 8) hx hb d_Mod_type_37 (by decide) ?_
      refine lv_imul hx hb d_Mod_type_39 ?_
      refine nw_ti (pk_mul (k % 8) 8) ?_
      refine lv_isub hx hb d_Mod_type_40 ?_
      refine nw_ti (pk_sub (a := 56) (b := ((k % 8) * 8)) (by omega)) ?_
      refine nw_ti (y := nI (56 - k % 8 * 8)) (congrArg nI (show 56 - ((k % 8) * 8) = 56 - k % 8 * 8 by omega)) ?_
      refine lv_lushr (v := (x1.toUInt64 >>> ((nI (56 - k % 8 * 8)).toInt64.toUInt64 &&& Int64.toUInt64 63)).toInt64) hx hb d_Mod_type_41 (rfl) ?_
      refine lv_l2i (v := (x1.toUInt64 >>> ((nI (56 - k % 8 * 8)).toInt64.toUInt64 &&& Int64.toUInt64 63)).toInt64.toInt32) hx hb d_Mod_type_42 (rfl) ?_
      refine lv_sipush (v := nI 255) hx hb d_Mod_type_43 (by decide) ?_
      refine lv_iand hx hb d_Mod_type_46 ?_
      refine nw_ti (y := nI (b k)) ((nw_byte x1 (sh := 56 - k % 8 * 8) (by omega)).trans (congrArg nI (by rw [hb9]; exact (if_pos (by omega)).symm))) ?_
      refine lv_istore hx hb d_Mod_type_47 hl (by decide) rfl (fun ls hl => ?_)
      replace hl : lv_has ls 8 [(7, .int (nI (b k))), (6, .int (nI k)), (5, .int (nI (nw_cnt (fun i => b i ≠ 0) k))), (0, .ref hM), (1, .long x1), (3, .long x2)] := hl
      refine lv_iload hx hb d_Mod_type_49 (lv_at hl 0 rfl) ?_
      refine lv_if_eq hx hb d_Mod_type_51 (tgt := 73) (by decide) (fun r1 => ?_) (fun r1 => ?_)
      · rw [nw_eq0 (by omega)] at r1
        have hgood : ¬ (b k ≠ 0 ∧ (b k < 33 ∨ 126 < b k)) := fun h => h.1 r1
        refine lv_iload hx hb d_Mod_type_73 (lv_at hl 0 rfl) ?_
        refine lv_if_eq hx hb d_Mod_type_75 (tgt := 81) (by decide) (fun q9 => ?_) (fun q9 => ?_)
        · rw [nw_eq0 (by omega)] at q9
          rw [← nw_cnt_neg (f := fun i => b i ≠ 0) (n := k) (fun h => h q9)] at hl
          refine lv_iinc (v := nI (k + 1)) hx hb d_Mod_type_81 hl (k := 1) rfl (nI_add k 1) (by decide) rfl (fun ls hl => ?_)
          have hl : lv_has ls 8 [(6, .int (nI (k + 1))), (7, .int (nI (b k))), (5, .int (nI (nw_cnt (fun i => b i ≠ 0) (k + 1)))), (0, .ref hM), (1, .long x1), (3, .long x2)] := hl
          refine lv_goto hx hb d_Mod_type_84 (tgt := 11) (by decide) ?_
          exact ih1 (k + 1, t) (⟨by omega, by
            rcases ht with ⟨h1, h2⟩ | ⟨h1, i, h2, h3⟩
            · refine Or.inl ⟨h1, fun i hi => ?_⟩
              by_cases e : i = k
              · rw [e]; exact hgood
              · exact h2 i (by omega)
            · exact Or.inr ⟨h1, i, by omega, h3⟩⟩) (show 16 - (k + 1) < 16 - k by omega) _ _ _ (lv_sub hl [0, 2, 3, 4, 5] rfl) hP hD hS
        · rw [nw_eq0 (by omega)] at q9
          refine lv_iinc (v := nI ((nw_cnt (fun i => b i ≠ 0) k) + 1)) hx hb d_Mod_type_78 hl (k := 2) rfl (nI_add (nw_cnt (fun i => b i ≠ 0) k) 1) (by decide) rfl (fun ls hl => ?_)
          have hl : lv_has ls 8 [(5, .int (nI ((nw_cnt (fun i => b i ≠ 0) k) + 1))), (7, .int (nI (b k))), (6, .int (nI k)), (0, .ref hM), (1, .long x1), (3, .long x2)] := hl
          rw [← nw_cnt_pos (f := fun i => b i ≠ 0) (n := k) q9] at hl
          have hl : lv_has ls 8 [(5, .int (nI (nw_cnt (fun i => b i ≠ 0) (k + 1)))), (7, .int (nI (b k))), (6, .int (nI k)), (0, .ref hM), (1, .long x1), (3, .long x2)] := hl
          refine lv_iinc (v := nI (k + 1)) hx hb d_Mod_type_81 hl (k := 2) rfl (nI_add k 1) (by decide) rfl (fun ls hl => ?_)
          have hl : lv_has ls 8 [(6, .int (nI (k + 1))), (5, .int (nI (nw_cnt (fun i => b i ≠ 0) (k + 1)))), (7, .int (nI (b k))), (0, .ref hM), (1, .long x1), (3, .long x2)] := hl
          refine lv_goto hx hb d_Mod_type_84 (tgt := 11) (by decide) ?_
          exact ih1 (k + 1, t) (⟨by omega, by
            rcases ht with ⟨h1, h2⟩ | ⟨h1, i, h2, h3⟩
            · refine Or.inl ⟨h1, fun i hi => ?_⟩
              by_cases e : i = k
              · rw [e]; exact hgood
              · exact h2 i (by omega)
            · exact Or.inr ⟨h1, i, by omega, h3⟩⟩) (show 16 - (k + 1) < 16 - k by omega) _ _ _ (lv_sub hl [0, 1, 3, 4, 5] rfl) hP hD hS
      · rw [nw_eq0 (by omega)] at r1
        refine lv_iload hx hb d_Mod_type_54 (lv_at hl 0 rfl) ?_
        refine lv_bipush (v := nI 33) hx hb d_Mod_type_56 (by decide) ?_
        refine lv_icmp_lt hx hb d_Mod_type_58 (tgt := 68) (by decide) (fun r2 => ?_) (fun r2 => ?_)
        · rw [nI_ltI (by omega) (by omega)] at r2
          have hbadk : (b k ≠ 0 ∧ (b k < 33 ∨ 126 < b k)) := ⟨r1, Or.inl r2⟩
          refine lv_aload_n hx hb d_Mod_type_68 rfl (lv_at hl 3 rfl) ?_
          refine lv_iconst (v := nI 1) hx hb d_Mod_type_69 (by decide) ?_
          refine va_put (D := (dC, dI)) (ci := 1) (v := .int (nI 1)) (ty := .int) (C := R_Mod) (T := F_Mod) (N := 16) hx hb hts hin_Mod t_Mod t_Mod_ok n_Mod hown hK hP hD hS 0 rfl rfl 15 (by decide) (hts _ (nw_mc 187 rfl)) (fun _ h9 => h9) rfl (by decide +kernel) rfl rfl (Nat.le_of_ble_eq_true rfl) d_Mod_type_70 (fun H locs hP hD hS => ?_)
          replace hP : va_P (dC, dI) nw_cls [(hM, .inr (1, [.ref ai, .ref aw, .ref ar, .ref al, .ref aL, .ref aD, .ref ac, .ref af, .ref ap, .ref an, .ref ax, .int (nI isz), .int (nI wn), .int (nI chn), .int (nI rn), .int (nI 1)])), (ai, nw_ai cB 60 I)] H := hP
          replace hD : va_D A [(hM, .inr (1, [.ref ai, .ref aw, .ref ar, .ref al, .ref aL, .ref aD, .ref ac, .ref af, .ref ap, .ref an, .ref ax, .int (nI isz), .int (nI wn), .int (nI chn), .int (nI rn), .int (nI 1)])), (ai, nw_ai cB 60 I)] := hD
          refine lv_iload hx hb d_Mod_type_73 (lv_at hl 0 rfl) ?_
          refine lv_if_eq hx hb d_Mod_type_75 (tgt := 81) (by decide) (fun q9 => ?_) (fun q9 => ?_)
          · rw [nw_eq0 (by omega)] at q9
            rw [← nw_cnt_neg (f := fun i => b i ≠ 0) (n := k) (fun h => h q9)] at hl
            refine lv_iinc (v := nI (k + 1)) hx hb d_Mod_type_81 hl (k := 1) rfl (nI_add k 1) (by decide) rfl (fun ls hl => ?_)
            have hl : lv_has ls 8 [(6, .int (nI (k + 1))), (7, .int (nI (b k))), (5, .int (nI (nw_cnt (fun i => b i ≠ 0) (k + 1)))), (0, .ref hM), (1, .long x1), (3, .long x2)] := hl
            refine lv_goto hx hb d_Mod_type_84 (tgt := 11) (by decide) ?_
            exact ih1 (k + 1, 1) (⟨by omega, Or.inr ⟨rfl, k, by omega, hbadk⟩⟩) (show 16 - (k + 1) < 16 - k by omega) _ _ _ (lv_sub hl [0, 2, 3, 4, 5] rfl) hP hD hS
          · rw [nw_eq0 (by omega)] at q9
            refine lv_iinc (v := nI ((nw_cnt (fun i => b i ≠ 0) k) + 1)) hx hb d_Mod_type_78 hl (k := 2) rfl (nI_add (nw_cnt (fun i => b i ≠ 0) k) 1) (by decide) rfl (fun ls hl => ?_)
            have hl : lv_has ls 8 [(5, .int (nI ((nw_cnt (fun i => b i ≠ 0) k) + 1))), (7, .int (nI (b k))), (6, .int (nI k)), (0, .ref hM), (1, .long x1), (3, .long x2)] := hl
            rw [← nw_cnt_pos (f := fun i => b i ≠ 0) (n := k) q9] at hl
            have hl : lv_has ls 8 [(5, .int (nI (nw_cnt (fun i => b i ≠ 0) (k + 1)))), (7, .int (nI (b k))), (6, .int (nI k)), (0, .ref hM), (1, .long x1), (3, .long x2)] := hl
            refine lv_iinc (v := nI (k + 1)) hx hb d_Mod_type_81 hl (k := 2) rfl (nI_add k 1) (by decide) rfl (fun ls hl => ?_)
            have hl : lv_has ls 8 [(6, .int (nI (k + 1))), (5, .int (nI (nw_cnt (fun i => b i ≠ 0) (k + 1)))), (7, .int (nI (b k))), (0, .ref hM), (1, .long x1), (3, .long x2)] := hl
            refine lv_goto hx hb d_Mod_type_84 (tgt := 11) (by decide) ?_
            exact ih1 (k + 1, 1) (⟨by omega, Or.inr ⟨rfl, k, by omega, hbadk⟩⟩) (show 16 - (k + 1) < 16 - k by omega) _ _ _ (lv_sub hl [0, 1, 3, 4, 5] rfl) hP hD hS
        · rw [nI_ltI (by omega) (by omega)] at r2
          refine lv_iload hx hb d_Mod_type_61 (lv_at hl 0 rfl) ?_
          refine lv_bipush (v := nI 126) hx hb d_Mod_type_63 (by decide) ?_
          refine lv_icmp_le hx hb d_Mod_type_65 (tgt := 73) (by decide) (fun r3 => ?_) (fun r3 => ?_)
          · rw [nI_leI (by omega) (by omega)] at r3
            have hgood : ¬ (b k ≠ 0 ∧ (b k < 33 ∨ 126 < b k)) := fun h => by omega
            refine lv_iload hx hb d_Mod_type_73 (lv_at hl 0 rfl) ?_
            refine lv_if_eq hx hb d_Mod_type_75 (tgt := 81) (by decide) (fun q9 => ?_) (fun q9 => ?_)
            · rw [nw_eq0 (by omega)] at q9
              rw [← nw_cnt_neg (f := fun i => b i ≠ 0) (n := k) (fun h => h q9)] at hl
              refine lv_iinc (v := nI (k + 1)) hx hb d_Mod_type_81 hl (k := 1) rfl (nI_add k 1) (by decide) rfl (fun ls hl => ?_)
              have hl : lv_has ls 8 [(6, .int (nI (k + 1))), (7, .int (nI (b k))), (5, .int (nI (nw_cnt (fun i => b i ≠ 0) (k + 1)))), (0, .ref hM), (1, .long x1), (3, .long x2)] := hl
              refine lv_goto hx hb d_Mod_type_84 (tgt := 11) (by decide) ?_
              exact ih1 (k + 1, t) (⟨by omega, by
                rcases ht with ⟨h1, h2⟩ | ⟨h1, i, h2, h3⟩
                · refine Or.inl ⟨h1, fun i hi => ?_⟩
                  by_cases e : i = k
                  · rw [e]; exact hgood
                  · exact h2 i (by omega)
                · exact Or.inr ⟨h1, i, by omega, h3⟩⟩) (show 16 - (k + 1) < 16 - k by omega) _ _ _ (lv_sub hl [0, 2, 3, 4, 5] rfl) hP hD hS
            · rw [nw_eq0 (by omega)] at q9
              refine lv_iinc (v := nI ((nw_cnt (fun i => b i ≠ 0) k) + 1)) hx hb d_Mod_type_78 hl (k := 2) rfl (nI_add (nw_cnt (fun i => b i ≠ 0) k) 1) (by decide) rfl (fun ls hl => ?_)
              have hl : lv_has ls 8 [(5, .int (nI ((nw_cnt (fun i => b i ≠ 0) k) + 1))), (7, .int (nI (b k))), (6, .int (nI k)), (0, .ref hM), (1, .long x1), (3, .long x2)] := hl
              rw [← nw_cnt_pos (f := fun i => b i ≠ 0) (n := k) q9] at hl
              have hl : lv_has ls 8 [(5, .int (nI (nw_cnt (fun i => b i ≠ 0) (k + 1)))), (7, .int (nI (b k))), (6, .int (nI k)), (0, .ref hM), (1, .long x1), (3, .long x2)] := hl
              refine lv_iinc (v := nI (k + 1)) hx hb d_Mod_type_81 hl (k := 2) rfl (nI_add k 1) (by decide) rfl (fun ls hl => ?_)
              have hl : lv_has ls 8 [(6, .int (nI (k + 1))), (5, .int (nI (nw_cnt (fun i => b i ≠ 0) (k + 1)))), (7, .int (nI (b k))), (0, .ref hM), (1, .long x1), (3, .long x2)] := hl
              refine lv_goto hx hb d_Mod_type_84 (tgt := 11) (by decide) ?_
              exact ih1 (k + 1, t) (⟨by omega, by
                rcases ht with ⟨h1, h2⟩ | ⟨h1, i, h2, h3⟩
                · refine Or.inl ⟨h1, fun i hi => ?_⟩
                  by_cases e : i = k
                  · rw [e]; exact hgood
                  · exact h2 i (by omega)
                · exact Or.inr ⟨h1, i, by omega, h3⟩⟩) (show 16 - (k + 1) < 16 - k by omega) _ _ _ (lv_sub hl [0, 1, 3, 4, 5] rfl) hP hD hS
          · rw [nI_leI (by omega) (by omega)] at r3
            have hbadk : (b k ≠ 0 ∧ (b k < 33 ∨ 126 < b k)) := ⟨r1, Or.inr (by omega)⟩
            refine lv_aload_n hx hb d_Mod_type_68 rfl (lv_at hl 3 rfl) ?_
            refine lv_iconst (v := nI 1) hx hb d_Mod_type_69 (by decide) ?_
            refine va_put (D := (dC, dI)) (ci := 1) (v := .int (nI 1)) (ty := .int) (C := R_Mod) (T := F_Mod) (N := 16) hx hb hts hin_Mod t_Mod t_Mod_ok n_Mod hown hK hP hD hS 0 rfl rfl 15 (by decide) (hts _ (nw_mc 187 rfl)) (fun _ h9 => h9) rfl (by decide +kernel) rfl rfl (Nat.le_of_ble_eq_true rfl) d_Mod_type_70 (fun H locs hP hD hS => ?_)
            replace hP : va_P (dC, dI) nw_cls [(hM, .inr (1, [.ref ai, .ref aw, .ref ar, .ref al, .ref aL, .ref aD, .ref ac, .ref af, .ref ap, .ref an, .ref ax, .int (nI isz), .int (nI wn), .int (nI chn), .int (nI rn), .int (nI 1)])), (ai, nw_ai cB 60 I)] H := hP
            replace hD : va_D A [(hM, .inr (1, [.ref ai, .ref aw, .ref ar, .ref al, .ref aL, .ref aD, .ref ac, .ref af, .ref ap, .ref an, .ref ax, .int (nI isz), .int (nI wn), .int (nI chn), .int (nI rn), .int (nI 1)])), (ai, nw_ai cB 60 I)] := hD
            refine lv_iload hx hb d_Mod_type_73 (lv_at hl 0 rfl) ?_
            refine lv_if_eq hx hb d_Mod_type_75 (tgt := 81) (by decide) (fun q9 => ?_) (fun q9 => ?_)
            · rw [nw_eq0 (by omega)] at q9
              rw [← nw_cnt_neg (f := fun i => b i ≠ 0) (n := k) (fun h => h q9)] at hl
              refine lv_iinc (v := nI (k + 1)) hx hb d_Mod_type_81 hl (k := 1) rfl (nI_add k 1) (by decide) rfl (fun ls hl => ?_)
              have hl : lv_has ls 8 [(6, .int (nI (k + 1))), (7, .int (nI (b k))), (5, .int (nI (nw_cnt (fun i => b i ≠ 0) (k + 1)))), (0, .ref hM), (1, .long x1), (3, .long x2)] := hl
              refine lv_goto hx hb d_Mod_type_84 (tgt := 11) (by decide) ?_
              exact ih1 (k + 1, 1) (⟨by omega, Or.inr ⟨rfl, k, by omega, hbadk⟩⟩) (show 16 - (k + 1) < 16 - k by omega) _ _ _ (lv_sub hl [0, 2, 3, 4, 5] rfl) hP hD hS
            · rw [nw_eq0 (by omega)] at q9
              refine lv_iinc (v := nI ((nw_cnt (fun i => b i ≠ 0) k) + 1)) hx hb d_Mod_type_78 hl (k := 2) rfl (nI_add (nw_cnt (fun i => b i ≠ 0) k) 1) (by decide) rfl (fun ls hl => ?_)
              have hl : lv_has ls 8 [(5, .int (nI ((nw_cnt (fun i => b i ≠ 0) k) + 1))), (7, .int (nI (b k))), (6, .int (nI k)), (0, .ref hM), (1, .long x1), (3, .long x2)] := hl
              rw [← nw_cnt_pos (f := fun i => b i ≠ 0) (n := k) q9] at hl
              have hl : lv_has ls 8 [(5, .int (nI (nw_cnt (fun i => b i ≠ 0) (k + 1)))), (7, .int (nI (b k))), (6, .int (nI k)), (0, .ref hM), (1, .long x1), (3, .long x2)] := hl
              refine lv_iinc (v := nI (k + 1)) hx hb d_Mod_type_81 hl (k := 2) rfl (nI_add k 1) (by decide) rfl (fun ls hl => ?_)
              have hl : lv_has ls 8 [(6, .int (nI (k + 1))), (5, .int (nI (nw_cnt (fun i => b i ≠ 0) (k + 1)))), (7, .int (nI (b k))), (0, .ref hM), (1, .long x1), (3, .long x2)] := hl
              refine lv_goto hx hb d_Mod_type_84 (tgt := 11) (by decide) ?_
              exact ih1 (k + 1, 1) (⟨by omega, Or.inr ⟨rfl, k, by omega, hbadk⟩⟩) (show 16 - (k + 1) < 16 - k by omega) _ _ _ (lv_sub hl [0, 1, 3, 4, 5] rfl) hP hD hS

set_option maxHeartbeats 4000000 in
set_option maxRecDepth 100000 in
theorem c_Mod_type_full (l : Launch) (dC : Nat → ClassId) (dI : Nat → Nat → Nat) (sz : Nat) (cB : ClassId) (hM ai aw ar al aL aD ac af ap an ax isz wn chn rn th : Nat) (I : Nat → Nat) (x1 x2 : Int64) (b : Nat → Nat) (hb9 : b = (fun k => if k < 8 then nw_by x1 (56 - k % 8 * 8) else nw_by x2 (56 - k % 8 * 8))) (hn : isz ≤ 60) (hok : ∀ k, k < 16 → ¬ (b k ≠ 0 ∧ (b k < 33 ∨ 126 < b k))) (hfull : 60 < isz + nw_cnt (fun i => b i ≠ 0) 16) : Met l y_Mod_type w_Mod_type ({ frames := 0, cells := 0, slots := 0, locals := 0 }) (nw_Pw [.ref hM, .long x1, .long x2] (dC, dI) nw_cls [(cB, .byte)] [(hM, .inr (1, [.ref ai, .ref aw, .ref ar, .ref al, .ref aL, .ref aD, .ref ac, .ref af, .ref ap, .ref an, .ref ax, .int (nI isz), .int (nI wn), .int (nI chn), .int (nI rn), .int (nI th)])), (ai, nw_ai cB 60 I)] sz) (va_Qi (fun (r : Int32) (_ : Unit) => r = nI 0) (nw_B (dC, dI) nw_cls (va_A [(hM, .inr (1, [.ref ai, .ref aw, .ref ar, .ref al, .ref aL, .ref aD, .ref ac, .ref af, .ref ap, .ref an, .ref ax, .int (nI isz), .int (nI wn), .int (nI chn), .int (nI rn), .int (nI th)])), (ai, nw_ai cB 60 I)] sz) (fun _ : Unit => [(hM, .inr (1, [.ref ai, .ref aw, .ref ar, .ref al, .ref aL, .ref aD, .ref ac, .ref af, .ref ap, .ref an, .ref ax, .int (nI isz), .int (nI wn), .int (nI chn), .int (nI rn), .int (nI 2)])), (ai, nw_ai cB 60 I)])) (va_A [(hM, .inr (1, [.ref ai, .ref aw, .ref ar, .ref al, .ref aL, .ref aD, .ref ac, .ref af, .ref ap, .ref an, .ref ax, .int (nI isz), .int (nI wn), .int (nI chn), .int (nI rn), .int (nI th)])), (ai, nw_ai cB 60 I)] sz)) 0 0 (va_A [(hM, .inr (1, [.ref ai, .ref aw, .ref ar, .ref al, .ref aL, .ref aD, .ref ac, .ref af, .ref ap, .ref an, .ref ax, .int (nI isz), .int (nI wn), .int (nI chn), .int (nI rn), .int (nI th)])), (ai, nw_ai cB 60 I)] sz) := by
  refine Met.ofW (cc := b_Mod_type) (maxL := 8) (ret := (some .int)) (by decide) rfl ?_
  intro p e s m args below meth cd s₁ B hml hv0
  obtain ⟨rfl, hsz, hP, hK, hD0⟩ := hv0
  have hx := B.exec
  have hb := B.bytes
  have hr := B.returns
  have hts := atoms_spec (ws := w_Mod_type) B.pre
  have hown : s.vm.findClass R_Mod = some m.cls := findClass_of_methodNamed B.named
  have hlocks := B.notSynchronized
  subst hsz
  have hD := hD0.self (sz := s.heap.size)
  generalize hAe : va_A [(hM, .inr (1, [.ref ai, .ref aw, .ref ar, .ref al, .ref aL, .ref aD, .ref ac, .ref af, .ref ap, .ref an, .ref ax, .int (nI isz), .int (nI wn), .int (nI chn), .int (nI rn), .int (nI th)])), (ai, nw_ai cB 60 I)] s.heap.size = A at hD ⊢
  have hA : ∀ q : Nat, s.heap.size ≤ q → A q := fun q h => by rw [← hAe]; exact Or.inr h
  have hS : va_S A s.heap s.heap [] := va_S.rf
  have hl := lv_entry ([.ref hM, .long x1, .long x2]) (n := 8) (Nat.le_of_ble_eq_true rfl)
  rw [lg_entry_eq]
  generalize (lg_sl ([.ref hM, .long x1, .long x2]) ++ List.replicate (8 - (lg_sl ([.ref hM, .long x1, .long x2])).length) Slot.unset).toArray = ls at hl ⊢
  have hl : lv_has ls 8 [(0, .ref hM), (1, .long x1), (3, .long x2)] := hl
  have hbl : ∀ k, b k < 256 := fun k => by
    rw [hb9]; dsimp only
    split <;> exact nw_by_lt _ _
  refine lv_iconst (v := nI 0) hx hb d_Mod_type_0 (by decide) ?_
  refine lv_istore hx hb d_Mod_type_1 hl (by decide) rfl (fun ls hl => ?_)
  replace hl : lv_has ls 8 [(5, .int (nI 0)), (0, .ref hM), (1, .long x1), (3, .long x2)] := hl
  refine lv_aload_n hx hb d_Mod_type_3 rfl (lv_at hl 1 rfl) ?_
  refine lv_iconst (v := nI 0) hx hb d_Mod_type_4 (by decide) ?_
  refine va_put (D := (dC, dI)) (ci := 1) (v := .int (nI 0)) (ty := .int) (C := R_Mod) (T := F_Mod) (N := 16) hx hb hts hin_Mod t_Mod t_Mod_ok n_Mod hown hK hP hD hS 0 rfl rfl 15 (by decide) (hts _ (nw_mc 187 rfl)) (fun _ h9 => h9) rfl (by decide +kernel) rfl rfl (Nat.le_of_ble_eq_true rfl) d_Mod_type_5 (fun H locs hP hD hS => ?_)
  replace hP : va_P (dC, dI) nw_cls [(hM, .inr (1, [.ref ai, .ref aw, .ref ar, .ref al, .ref aL, .ref aD, .ref ac, .ref af, .ref ap, .ref an, .ref ax, .int (nI isz), .int (nI wn), .int (nI chn), .int (nI rn), .int (nI 0)])), (ai, nw_ai cB 60 I)] H := hP
  replace hD : va_D A [(hM, .inr (1, [.ref ai, .ref aw, .ref ar, .ref al, .ref aL, .ref aD, .ref ac, .ref af, .ref ap, .ref an, .ref ax, .int (nI isz), .int (nI wn), .int (nI chn), .int (nI rn), .int (nI 0)])), (ai, nw_ai cB 60 I)] := hD
  refine lv_iconst (v := nI 0) hx hb d_Mod_type_8 (by decide) ?_
  refine lv_istore hx hb d_Mod_type_9 hl (by decide) rfl (fun ls hl => ?_)
  replace hl : lv_has ls 8 [(6, .int (nI 0)), (5, .int (nI 0)), (0, .ref hM), (1, .long x1), (3, .long x2)] := hl
  refine nw_loopW (σ := Nat × Nat) (fun x => match x with | (k, t) => k ≤ 16 ∧ ((t = 0 ∧ ∀ i, i < k → ¬ (b i ≠ 0 ∧ (b i < 33 ∨ 126 < b i))) ∨ (t = 1 ∧ ∃ i, i < k ∧ (b i ≠ 0 ∧ (b i < 33 ∨ 126 < b i))))) (fun x => match x with | (k, t) => [(6, .int (nI k)), (5, .int (nI (nw_cnt (fun i => b i ≠ 0) k))), (0, .ref hM), (1, .long x1), (3, .long x2)]) (fun x => match x with | (k, t) => [(hM, .inr (1, [.ref ai, .ref aw, .ref ar, .ref al, .ref aL, .ref aD, .ref ac, .ref af, .ref ap, .ref an, .ref ax, .int (nI isz), .int (nI wn), .int (nI chn), .int (nI rn), .int (nI t)])), (ai, nw_ai cB 60 I)]) (fun x => match x with | (k, t) => 16 - k) (fun x hA1 ih1 ls H locs hl hP hD hS => ?_) (0, 0) (⟨Nat.zero_le _, Or.inl ⟨rfl, fun i h => absurd h (Nat.not_lt_zero i)⟩⟩) hl hP hD hS
  obtain ⟨k, t⟩ := x
  replace hA1 : k ≤ 16 ∧ ((t = 0 ∧ ∀ i, i < k → ¬ (b i ≠ 0 ∧ (b i < 33 ∨ 126 < b i))) ∨ (t = 1 ∧ ∃ i, i < k ∧ (b i ≠ 0 ∧ (b i < 33 ∨ 126 < b i)))) := hA1
  replace hl : lv_has ls 8 [(6, .int (nI k)), (5, .int (nI (nw_cnt (fun i => b i ≠ 0) k))), (0, .ref hM), (1, .long x1), (3, .long x2)] := hl
  replace hP : va_P (dC, dI) nw_cls [(hM, .inr (1, [.ref ai, .ref aw, .ref ar, .ref al, .ref aL, .ref aD, .ref ac, .ref af, .ref ap, .ref an, .ref ax, .int (nI isz), .int (nI wn), .int (nI chn), .int (nI rn), .int (nI t)])), (ai, nw_ai cB 60 I)] H := hP
  replace hD : va_D A [(hM, .inr (1, [.ref ai, .ref aw, .ref ar, .ref al, .ref aL, .ref aD, .ref ac, .ref af, .ref ap, .ref an, .ref ax, .int (nI isz), .int (nI wn), .int (nI chn), .int (nI rn), .int (nI t)])), (ai, nw_ai cB 60 I)] := hD
  obtain ⟨hk, ht⟩ := hA1
  have hcn := nw_cnt_le (fun i => b i ≠ 0) k
  have hbk := hbl k
  refine lv_iload hx hb d_Mod_type_11 (lv_at hl 0 rfl) ?_
  refine lv_bipush (v := nI 16) hx hb d_Mod_type_13 (by decide) ?_
  refine lv_icmp_ge hx hb d_Mod_type_15 (tgt := 87) (by decide) (fun q7 => ?_) (fun q7 => ?_)
  · rw [nI_leI (by omega) (by omega)] at q7
    have hk9 : k = 16 := by omega
    rw [hk9] at hl ht hcn
    have hl : lv_has ls 8 [(6, .int (nI 16)), (5, .int (nI (nw_cnt (fun i => b i ≠ 0) 16))), (0, .ref hM), (1, .long x1), (3, .long x2)] := hl
    obtain ⟨ht0, hz⟩ | ⟨ht0, hz⟩ := ht
    · rw [ht0] at hP hD
      refine lv_aload_n hx hb d_Mod_type_87 rfl (lv_at hl 2 rfl) ?_
      refine va_get (D := (dC, dI)) (ci := 1) (v := .int (nI 0)) (C := R_Mod) (T := F_Mod) (N := 16) hx hb hts hin_Mod hown hK hP 0 rfl rfl 15 (by decide) (hts _ (nw_mc 187 rfl)) (fun _ h9 => h9) rfl d_Mod_type_88 ?_
      refine lv_if_ne hx hb d_Mod_type_91 (tgt := 111) (by decide) (fun s1 => ?_) (fun s1 => ?_)
      · rw [nw_eq0 (by omega)] at s1
        omega
      · rw [nw_eq0 (by omega)] at s1
        refine lv_aload_n hx hb d_Mod_type_94 rfl (lv_at hl 2 rfl) ?_
        refine va_get (D := (dC, dI)) (ci := 1) (v := .int (nI isz)) (C := R_Mod) (T := F_Mod) (N := 16) hx hb hts hin_Mod hown hK hP 0 rfl rfl 11 (by decide) (hts _ (nw_mc 188 rfl)) (fun _ h9 => h9) rfl d_Mod_type_95 ?_
        refine lv_iload hx hb d_Mod_type_98 (lv_at hl 1 rfl) ?_
        refine lv_iadd hx hb d_Mod_type_100 ?_
        refine nw_ti (nI_add isz (nw_cnt (fun i => b i ≠ 0) 16)) ?_
        refine lv_bipush (v := nI 60) hx hb d_Mod_type_101 (by decide) ?_
        refine lv_icmp_le hx hb d_Mod_type_103 (tgt := 111) (by decide) (fun s2 => ?_) (fun s2 => ?_)
        · rw [nI_leI (by omega) (by omega)] at s2
          omega
        · rw [nI_leI (by omega) (by omega)] at s2
          refine lv_aload_n hx hb d_Mod_type_106 rfl (lv_at hl 2 rfl) ?_
          refine lv_iconst (v := nI 2) hx hb d_Mod_type_107 (by decide) ?_
          refine va_put (D := (dC, dI)) (ci := 1) (v := .int (nI 2)) (ty := .int) (C := R_Mod) (T := F_Mod) (N := 16) hx hb hts hin_Mod t_Mod t_Mod_ok n_Mod hown hK hP hD hS 0 rfl rfl 15 (by decide) (hts _ (nw_mc 187 rfl)) (fun _ h9 => h9) rfl (by decide +kernel) rfl rfl (Nat.le_of_ble_eq_true rfl) d_Mod_type_108 (fun H locs hP hD hS => ?_)
          replace hP : va_P (dC, dI) nw_cls [(hM, .inr (1, [.ref ai, .ref aw, .ref ar, .ref al, .ref aL, .ref aD, .ref ac, .ref af, .ref ap, .ref an, .ref ax, .int (nI isz), .int (nI wn), .int (nI chn), .int (nI rn), .int (nI 2)])), (ai, nw_ai cB 60 I)] H := hP
          replace hD : va_D A [(hM, .inr (1, [.ref ai, .ref aw, .ref ar, .ref al, .ref aL, .ref aD, .ref ac, .ref af, .ref ap, .ref an, .ref ax, .int (nI isz), .int (nI wn), .int (nI chn), .int (nI rn), .int (nI 2)])), (ai, nw_ai cB 60 I)] := hD
          refine lv_aload_n hx hb d_Mod_type_111 rfl (lv_at hl 2 rfl) ?_
          refine va_get (D := (dC, dI)) (ci := 1) (v := .int (nI 2)) (C := R_Mod) (T := F_Mod) (N := 16) hx hb hts hin_Mod hown hK hP 0 rfl rfl 15 (by decide) (hts _ (nw_mc 187 rfl)) (fun _ h9 => h9) rfl d_Mod_type_112 ?_
          refine lv_if_eq hx hb d_Mod_type_115 (tgt := 120) (by decide) (fun s3 => ?_) (fun s3 => ?_)
          · rw [nw_eq0 (by omega)] at s3
            omega
          · rw [nw_eq0 (by omega)] at s3
            refine lv_iconst (v := nI 0) hx hb d_Mod_type_118 (by decide) ?_
            exact W.iret (v := nI 0) hx hb hr (fun t ht hW => ⟨⟨_, (), rfl, rfl, by rw [ht]; exact hP, hD⟩, hS.F ht⟩) hS.2.2 d_Mod_type_119
    · exact absurd hz (fun ⟨i, h1, h2⟩ => hok i h1 h2)
  · rw [nI_leI (by omega) (by omega)] at q7
    refine lv_iload hx hb d_Mod_type_18 (lv_at hl 0 rfl) ?_
    refine lv_bipush (v := nI 8) hx hb d_Mod_type_20 (by decide) ?_
    refine lv_icmp_ge hx hb d_Mod_type_22 (tgt := 29) (by decide) (fun q8 => ?_) (fun q8 => ?_)
    · rw [nI_leI (by omega) (by omega)] at q8
      refine lv_lload_n hx hb d_Mod_type_29 rfl (lv_at hl 4 rfl) ?_
      refine lv_bipush (v := nI 56) hx hb d_Mod_type_30 (by decide) ?_
      refine lv_iload hx hb d_Mod_type_32 (lv_at hl 0 rfl) ?_
      refine lv_bipush (v := nI 8) hx hb d_Mod_type_34 (by decide) ?_
      refine lv_irem hx hb d_Mod_type_36 (by decide) ?_
      refine nw_ti (pk_rem (a := k) (d := 8) (by omega) (by decide) (by decide)) ?_
      refine lv_bipush (v := nI 8) hx hb d_Mod_type_37 (by decide) ?_
      refine lv_imul hx hb d_Mod_type_39 ?_
      refine nw_ti (pk_mul (k % 8) 8) ?_
      refine lv_isub hx hb d_Mod_type_40 ?_
      refine nw_ti (pk_sub (a := 56) (b := ((k % 8) * 8)) (by omega)) ?_
      refine nw_ti (y := nI (56 - k % 8 * 8)) (congrArg nI (show 56 - ((k % 8) * 8) = 56 - k % 8 * 8 by omega)) ?_
      refine lv_lushr (v := (x2.toUInt64 >>> ((nI (56 - k % 8 * 8)).toInt64.toUInt64 &&& Int64.toUInt64 63)).toInt64) hx hb d_Mod_type_41 (rfl) ?_
      refine lv_l2i (v := (x2.toUInt64 >>> ((nI (56 - k % 8 * 8)).toInt64.toUInt64 &&& Int64.toUInt64 63)).toInt64.toInt32) hx hb d_Mod_type_42 (rfl) ?_
      refine lv_sipush (v := nI 255) hx hb d_Mod_type_43 (by decide) ?_
      refine lv_iand hx hb d_Mod_type_46 ?_
      refine nw_ti (y := nI (b k)) ((nw_byte x2 (sh := 56 - k % 8 * 8) (by omega)).trans (congrArg nI (by rw [hb9]; exact (if_neg (by omega)).symm))) ?_
      refine lv_istore hx hb d_Mod_type_47 hl (by decide) rfl (fun ls hl => ?_)
      replace hl : lv_has ls 8 [(7, .int (nI (b k))), (6, .int (nI k)), (5, .int (nI (nw_cnt (fun i => b i ≠ 0) k))), (0, .ref hM), (1, .long x1), (3, .long x2)] := hl
      refine lv_iload hx hb d_Mod_type_49 (lv_at hl 0 rfl) ?_
      refine lv_if_eq hx hb d_Mod_type_51 (tgt := 73) (by decide) (fun r1 => ?_) (fun r1 => ?_)
      · rw [nw_eq0 (by omega)] at r1
        have hgood : ¬ (b k ≠ 0 ∧ (b k < 33 ∨ 126 < b k)) := fun h => h.1 r1
        refine lv_iload hx hb d_Mod_type_73 (lv_at hl 0 rfl) ?_
        refine lv_if_eq hx hb d_Mod_type_75 (tgt := 81) (by decide) (fun q9 => ?_) (fun q9 => ?_)
        · rw [nw_eq0 (by omega)] at q9
          rw [← nw_cnt_neg (f := fun i => b i ≠ 0) (n := k) (fun h => h q9)] at hl
          refine lv_iinc (v := nI (k + 1)) hx hb d_Mod_type_81 hl (k := 1) rfl (nI_add k 1) (by decide) rfl (fun ls hl => ?_)
          have hl : lv_has ls 8 [(6, .int (nI (k + 1))), (7, .int (nI (b k))), (5, .int (nI (nw_cnt (fun i => b i ≠ 0) (k + 1)))), (0, .ref hM), (1, .long x1), (3, .long x2)] := hl
          refine lv_goto hx hb d_Mod_type_84 (tgt := 11) (by decide) ?_
          exact ih1 (k + 1, t) (⟨by omega, by
            rcases ht with ⟨h1, h2⟩ | ⟨h1, i, h2, h3⟩
            · refine Or.inl ⟨h1, fun i hi => ?_⟩
              by_cases e : i = k
              · rw [e]; exact hgood
              · exact h2 i (by omega)
            · exact Or.inr ⟨h1, i, by omega, h3⟩⟩) (show 16 - (k + 1) < 16 - k by omega) _ _ _ (lv_sub hl [0, 2, 3, 4, 5] rfl) hP hD hS
        · rw [nw_eq0 (by omega)] at q9
          refine lv_iinc (v := nI ((nw_cnt (fun i => b i ≠ 0) k) + 1)) hx hb d_Mod_type_78 hl (k := 2) rfl (nI_add (nw_cnt (fun i => b i ≠ 0) k) 1) (by decide) rfl (fun ls hl => ?_)
          have hl : lv_has ls 8 [(5, .int (nI ((nw_cnt (fun i => b i ≠ 0) k) + 1))), (7, .int (nI (b k))), (6, .int (nI k)), (0, .ref hM), (1, .long x1), (3, .long x2)] := hl
          rw [← nw_cnt_pos (f := fun i => b i ≠ 0) (n := k) q9] at hl
          have hl : lv_has ls 8 [(5, .int (nI (nw_cnt (fun i => b i ≠ 0) (k + 1)))), (7, .int (nI (b k))), (6, .int (nI k)), (0, .ref hM), (1, .long x1), (3, .long x2)] := hl
          refine lv_iinc (v := nI (k + 1)) hx hb d_Mod_type_81 hl (k := 2) rfl (nI_add k 1) (by decide) rfl (fun ls hl => ?_)
          have hl : lv_has ls 8 [(6, .int (nI (k + 1))), (5, .int (nI (nw_cnt (fun i => b i ≠ 0) (k + 1)))), (7, .int (nI (b k))), (0, .ref hM), (1, .long x1), (3, .long x2)] := hl
          refine lv_goto hx hb d_Mod_type_84 (tgt := 11) (by decide) ?_
          exact ih1 (k + 1, t) (⟨by omega, by
            rcases ht with ⟨h1, h2⟩ | ⟨h1, i, h2, h3⟩
            · refine Or.inl ⟨h1, fun i hi => ?_⟩
              by_cases e : i = k
              · rw [e]; exact hgood
              · exact h2 i (by omega)
            · exact Or.inr ⟨h1, i, by omega, h3⟩⟩) (show 16 - (k + 1) < 16 - k by omega) _ _ _ (lv_sub hl [0, 1, 3, 4, 5] rfl) hP hD hS
      · rw [nw_eq0 (by omega)] at r1
        refine lv_iload hx hb d_Mod_type_54 (lv_at hl 0 rfl) ?_
        refine lv_bipush (v := nI 33) hx hb d_Mod_type_56 (by decide) ?_
        refine lv_icmp_lt hx hb d_Mod_type_58 (tgt := 68) (by decide) (fun r2 => ?_) (fun r2 => ?_)
        · rw [nI_ltI (by omega) (by omega)] at r2
          have hbadk : (b k ≠ 0 ∧ (b k < 33 ∨ 126 < b k)) := ⟨r1, Or.inl r2⟩
          refine lv_aload_n hx hb d_Mod_type_68 rfl (lv_at hl 3 rfl) ?_
          refine lv_iconst (v := nI 1) hx hb d_Mod_type_69 (by decide) ?_
          refine va_put (D := (dC, dI)) (ci := 1) (v := .int (nI 1)) (ty := .int) (C := R_Mod) (T := F_Mod) (N := 16) hx hb hts hin_Mod t_Mod t_Mod_ok n_Mod hown hK hP hD hS 0 rfl rfl 15 (by decide) (hts _ (nw_mc 187 rfl)) (fun _ h9 => h9) rfl (by decide +kernel) rfl rfl (Nat.le_of_ble_eq_true rfl) d_Mod_type_70 (fun H locs hP hD hS => ?_)
          replace hP : va_P (dC, dI) nw_cls [(hM, .inr (1, [.ref ai, .ref aw, .ref ar, .ref al, .ref aL, .ref aD, .ref ac, .ref af, .ref ap, .ref an, .ref ax, .int (nI isz), .int (nI wn), .int (nI chn), .int (nI rn), .int (nI 1)])), (ai, nw_ai cB 60 I)] H := hP
          replace hD : va_D A [(hM, .inr (1, [.ref ai, .ref aw, .ref ar, .ref al, .ref aL, .ref aD, .ref ac, .ref af, .ref ap, .ref an, .ref ax, .int (nI isz), .int (nI wn), .int (nI chn), .int (nI rn), .int (nI 1)])), (ai, nw_ai cB 60 I)] := hD
          refine lv_iload hx hb d_Mod_type_73 (lv_at hl 0 rfl) ?_
          refine lv_if_eq hx hb d_Mod_type_75 (tgt := 81) (by decide) (fun q9 => ?_) (fun q9 => ?_)
          · rw [nw_eq0 (by omega)] at q9
            rw [← nw_cnt_neg (f := fun i => b i ≠ 0) (n := k) (fun h => h q9)] at hl
            refine lv_iinc (v := nI (k + 1)) hx hb d_Mod_type_81 hl (k := 1) rfl (nI_add k 1) (by decide) rfl (fun ls hl => ?_)
            have hl : lv_has ls 8 [(6, .int (nI (k + 1))), (7, .int (nI (b k))), (5, .int (nI (nw_cnt (fun i => b i ≠ 0) (k + 1)))), (0, .ref hM), (1, .long x1), (3, .long x2)] := hl
            refine lv_goto hx hb d_Mod_type_84 (tgt := 11) (by decide) ?_
            exact ih1 (k + 1, 1) (⟨by omega, Or.inr ⟨rfl, k, by omega, hbadk⟩⟩) (show 16 - (k + 1) < 16 - k by omega) _ _ _ (lv_sub hl [0, 2, 3, 4, 5] rfl) hP hD hS
          · rw [nw_eq0 (by omega)] at q9
            refine lv_iinc (v := nI ((nw_cnt (fun i => b i ≠ 0) k) + 1)) hx hb d_Mod_type_78 hl (k := 2) rfl (nI_add (nw_cnt (fun i => b i ≠ 0) k) 1) (by decide) rfl (fun ls hl => ?_)
            have hl : lv_has ls 8 [(5, .int (nI ((nw_cnt (fun i => b i ≠ 0) k) + 1))), (7, .int (nI (b k))), (6, .int (nI k)), (0, .ref hM), (1, .long x1), (3, .long x2)] := hl
            rw [← nw_cnt_pos (f := fun i => b i ≠ 0) (n := k) q9] at hl
            have hl : lv_has ls 8 [(5, .int (nI (nw_cnt (fun i => b i ≠ 0) (k + 1)))), (7, .int (nI (b k))), (6, .int (nI k)), (0, .ref hM), (1, .long x1), (3, .long x2)] := hl
            refine lv_iinc (v := nI (k + 1)) hx hb d_Mod_type_81 hl (k := 2) rfl (nI_add k 1) (by decide) rfl (fun ls hl => ?_)
            have hl : lv_has ls 8 [(6, .int (nI (k + 1))), (5, .int (nI (nw_cnt (fun i => b i ≠ 0) (k + 1)))), (7, .int (nI (b k))), (0, .ref hM), (1, .long x1), (3, .long x2)] := hl
            refine lv_goto hx hb d_Mod_type_84 (tgt := 11) (by decide) ?_
            exact ih1 (k + 1, 1) (⟨by omega, Or.inr ⟨rfl, k, by omega, hbadk⟩⟩) (show 16 - (k + 1) < 16 - k by omega) _ _ _ (lv_sub hl [0, 1, 3, 4, 5] rfl) hP hD hS
        · rw [nI_ltI (by omega) (by omega)] at r2
          refine lv_iload hx hb d_Mod_type_61 (lv_at hl 0 rfl) ?_
          refine lv_bipush (v := nI 126) hx hb d_Mod_type_63 (by decide) ?_
          refine lv_icmp_le hx hb d_Mod_type_65 (tgt := 73) (by decide) (fun r3 => ?_) (fun r3 => ?_)
          · rw [nI_leI (by omega) (by omega)] at r3
            have hgood : ¬ (b k ≠ 0 ∧ (b k < 33 ∨ 126 < b k)) := fun h => by omega
            refine lv_iload hx hb d_Mod_type_73 (lv_at hl 0 rfl) ?_
            refine lv_if_eq hx hb d_Mod_type_75 (tgt := 81) (by decide) (fun q9 => ?_) (fun q9 => ?_)
            · rw [nw_eq0 (by omega)] at q9
              rw [← nw_cnt_neg (f := fun i => b i ≠ 0) (n := k) (fun h => h q9)] at hl
              refine lv_iinc (v := nI (k + 1)) hx hb d_Mod_type_81 hl (k := 1) rfl (nI_add k 1) (by decide) rfl (fun ls hl => ?_)
              have hl : lv_has ls 8 [(6, .int (nI (k + 1))), (7, .int (nI (b k))), (5, .int (nI (nw_cnt (fun i => b i ≠ 0) (k + 1)))), (0, .ref hM), (1, .long x1), (3, .long x2)] := hl
              refine lv_goto hx hb d_Mod_type_84 (tgt := 11) (by decide) ?_
              exact ih1 (k + 1, t) (⟨by omega, by
                rcases ht with ⟨h1, h2⟩ | ⟨h1, i, h2, h3⟩
                · refine Or.inl ⟨h1, fun i hi => ?_⟩
                  by_cases e : i = k
                  · rw [e]; exact hgood
                  · exact h2 i (by omega)
                · exact Or.inr ⟨h1, i, by omega, h3⟩⟩) (show 16 - (k + 1) < 16 - k by omega) _ _ _ (lv_sub hl [0, 2, 3, 4, 5] rfl) hP hD hS
            · rw [nw_eq0 (by omega)] at q9
              refine lv_iinc (v := nI ((nw_cnt (fun i => b i ≠ 0) k) + 1)) hx hb d_Mod_type_78 hl (k := 2) rfl (nI_add (nw_cnt (fun i => b i ≠ 0) k) 1) (by decide) rfl (fun ls hl => ?_)
              have hl : lv_has ls 8 [(5, .int (nI ((nw_cnt (fun i => b i ≠ 0) k) + 1))), (7, .int (nI (b k))), (6, .int (nI k)), (0, .ref hM), (1, .long x1), (3, .long x2)] := hl
              rw [← nw_cnt_pos (f := fun i => b i ≠ 0) (n := k) q9] at hl
              have hl : lv_has ls 8 [(5, .int (nI (nw_cnt (fun i => b i ≠ 0) (k + 1)))), (7, .int (nI (b k))), (6, .int (nI k)), (0, .ref hM), (1, .long x1), (3, .long x2)] := hl
              refine lv_iinc (v := nI (k + 1)) hx hb d_Mod_type_81 hl (k := 2) rfl (nI_add k 1) (by decide) rfl (fun ls hl => ?_)
              have hl : lv_has ls 8 [(6, .int (nI (k + 1))), (5, .int (nI (nw_cnt (fun i => b i ≠ 0) (k + 1)))), (7, .int (nI (b k))), (0, .ref hM), (1, .long x1), (3, .long x2)] := hl
              refine lv_goto hx hb d_Mod_type_84 (tgt := 11) (by decide) ?_
              exact ih1 (k + 1, t) (⟨by omega, by
                rcases ht with ⟨h1, h2⟩ | ⟨h1, i, h2, h3⟩
                · refine Or.inl ⟨h1, fun i hi => ?_⟩
                  by_cases e : i = k
                  · rw [e]; exact hgood
                  · exact h2 i (by omega)
                · exact Or.inr ⟨h1, i, by omega, h3⟩⟩) (show 16 - (k + 1) < 16 - k by omega) _ _ _ (lv_sub hl [0, 1, 3, 4, 5] rfl) hP hD hS
          · rw [nI_leI (by omega) (by omega)] at r3
            have hbadk : (b k ≠ 0 ∧ (b k < 33 ∨ 126 < b k)) := ⟨r1, Or.inr (by omega)⟩
            refine lv_aload_n hx hb d_Mod_type_68 rfl (lv_at hl 3 rfl) ?_
            refine lv_iconst (v := nI 1) hx hb d_Mod_type_69 (by decide) ?_
            refine va_put (D := (dC, dI)) (ci := 1) (v := .int (nI 1)) (ty := .int) (C := R_Mod) (T := F_Mod) (N := 16) hx hb hts hin_Mod t_Mod t_Mod_ok n_Mod hown hK hP hD hS 0 rfl rfl 15 (by decide) (hts _ (nw_mc 187 rfl)) (fun _ h9 => h9) rfl (by decide +kernel) rfl rfl (Nat.le_of_ble_eq_true rfl) d_Mod_type_70 (fun H locs hP hD hS => ?_)
            replace hP : va_P (dC, dI) nw_cls [(hM, .inr (1, [.ref ai, .ref aw, .ref ar, .ref al, .ref aL, .ref aD, .ref ac, .ref af, .ref ap, .ref an, .ref ax, .int (nI isz), .int (nI wn), .int (nI chn), .int (nI rn), .int (nI 1)])), (ai, nw_ai cB 60 I)] H := hP
            replace hD : va_D A [(hM, .inr (1, [.ref ai, .ref aw, .ref ar, .ref al, .ref aL, .ref aD, .ref ac, .ref af, .ref ap, .ref an, .ref ax, .int (nI isz), .int (nI wn), .int (nI chn), .int (nI rn), .int (nI 1)])), (ai, nw_ai cB 60 I)] := hD
            refine lv_iload hx hb d_Mod_type_73 (lv_at hl 0 rfl) ?_
            refine lv_if_eq hx hb d_Mod_type_75 (tgt := 81) (by decide) (fun q9 => ?_) (fun q9 => ?_)
            · rw [nw_eq0 (by omega)] at q9
              rw [← nw_cnt_neg (f := fun i => b i ≠ 0) (n := k) (fun h => h q9)] at hl
              refine lv_iinc (v := nI (k + 1)) hx hb d_Mod_type_81 hl (k := 1) rfl (nI_add k 1) (by decide) rfl (fun ls hl => ?_)
              have hl : lv_has ls 8 [(6, .int (nI (k + 1))), (7, .int (nI (b k))), (5, .int (nI (nw_cnt (fun i => b i ≠ 0) (k + 1)))), (0, .ref hM), (1, .long x1), (3, .long x2)] := hl
              refine lv_goto hx hb d_Mod_type_84 (tgt := 11) (by decide) ?_
              exact ih1 (k + 1, 1) (⟨by omega, Or.inr ⟨rfl, k, by omega, hbadk⟩⟩) (show 16 - (k + 1) < 16 - k by omega) _ _ _ (lv_sub hl [0, 2, 3, 4, 5] rfl) hP hD hS
            · rw [nw_eq0 (by omega)] at q9
              refine lv_iinc (v := nI ((nw_cnt (fun i => b i ≠ 0) k) + 1)) hx hb d_Mod_type_78 hl (k := 2) rfl (nI_add (nw_cnt (fun i => b i ≠ 0) k) 1) (by decide) rfl (fun ls hl => ?_)
              have hl : lv_has ls 8 [(5, .int (nI ((nw_cnt (fun i => b i ≠ 0) k) + 1))), (7, .int (nI (b k))), (6, .int (nI k)), (0, .ref hM), (1, .long x1), (3, .long x2)] := hl
              rw [← nw_cnt_pos (f := fun i => b i ≠ 0) (n := k) q9] at hl
              have hl : lv_has ls 8 [(5, .int (nI (nw_cnt (fun i => b i ≠ 0) (k + 1)))), (7, .int (nI (b k))), (6, .int (nI k)), (0, .ref hM), (1, .long x1), (3, .long x2)] := hl
              refine lv_iinc (v := nI (k + 1)) hx hb d_Mod_type_81 hl (k := 2) rfl (nI_add k 1) (by decide) rfl (fun ls hl => ?_)
              have hl : lv_has ls 8 [(6, .int (nI (k + 1))), (5, .int (nI (nw_cnt (fun i => b i ≠ 0) (k + 1)))), (7, .int (nI (b k))), (0, .ref hM), (1, .long x1), (3, .long x2)] := hl
              refine lv_goto hx hb d_Mod_type_84 (tgt := 11) (by decide) ?_
              exact ih1 (k + 1, 1) (⟨by omega, Or.inr ⟨rfl, k, by omega, hbadk⟩⟩) (show 16 - (k + 1) < 16 - k by omega) _ _ _ (lv_sub hl [0, 1, 3, 4, 5] rfl) hP hD hS
    · rw [nI_leI (by omega) (by omega)] at q8
      refine lv_lload_n hx hb d_Mod_type_25 rfl (lv_at hl 3 rfl) ?_
      refine lv_goto hx hb d_Mod_type_26 (tgt := 30) (by decide) ?_
      refine lv_bipush (v := nI 56) hx hb d_Mod_type_30 (by decide) ?_
      refine lv_iload hx hb d_Mod_type_32 (lv_at hl 0 rfl) ?_
      refine lv_bipush (v := nI 8) hx hb d_Mod_type_34 (by decide) ?_
      refine lv_irem hx hb d_Mod_type_36 (by decide) ?_
      refine nw_ti (pk_rem (a := k) (d := 8) (by omega) (by decide) (by decide)) ?_
      refine lv_bipush (v := nI 8) hx hb d_Mod_type_37 (by decide) ?_
      refine lv_imul hx hb d_Mod_type_39 ?_
      refine nw_ti (pk_mul (k % 8) 8) ?_
      refine lv_isub hx hb d_Mod_type_40 ?_
      refine nw_ti (pk_sub (a := 56) (b := ((k % 8) * 8)) (by omega)) ?_
      refine nw_ti (y := nI (56 - k % 8 * 8)) (congrArg nI (show 56 - ((k % 8) * 8) = 56 - k % 8 * 8 by omega)) ?_
      refine lv_lushr (v := (x1.toUInt64 >>> ((nI (56 - k % 8 * 8)).toInt64.toUInt64 &&& Int64.toUInt64 63)).toInt64) hx hb d_Mod_type_41 (rfl) ?_
      refine lv_l2i (v := (x1.toUInt64 >>> ((nI (56 - k % 8 * 8)).toInt64.toUInt64 &&& Int64.toUInt64 63)).toInt64.toInt32) hx hb d_Mod_type_42 (rfl) ?_
      refine lv_sipush (v := nI 255) hx hb d_Mod_type_43 (by decide) ?_
      refine lv_iand hx hb d_Mod_type_46 ?_
      refine nw_ti (y := nI (b k)) ((nw_byte x1 (sh := 56 - k % 8 * 8) (by omega)).trans (congrArg nI (by rw [hb9]; exact (if_pos (by omega)).symm))) ?_
      refine lv_istore hx hb d_Mod_type_47 hl (by decide) rfl (fun ls hl => ?_)
      replace hl : lv_has ls 8 [(7, .int (nI (b k))), (6, .int (nI k)), (5, .int (nI (nw_cnt (fun i => b i ≠ 0) k))), (0, .ref hM), (1, .long x1), (3, .long x2)] := hl
      refine lv_iload hx hb d_Mod_type_49 (lv_at hl 0 rfl) ?_
      refine lv_if_eq hx hb d_Mod_type_51 (tgt := 73) (by decide) (fun r1 => ?_) (fun r1 => ?_)
      · rw [nw_eq0 (by omega)] at r1
        have hgood : ¬ (b k ≠ 0 ∧ (b k < 33 ∨ 126 < b k)) := fun h => h.1 r1
        refine lv_iload hx hb d_Mod_type_73 (lv_at hl 0 rfl) ?_
        refine lv_if_eq hx hb d_Mod_type_75 (tgt := 81) (by decide) (fun q9 => ?_) (fun q9 => ?_)
        · rw [nw_eq0 (by omega)] at q9
          rw [← nw_cnt_neg (f := fun i => b i ≠ 0) (n := k) (fun h => h q9)] at hl
          refine lv_iinc (v := nI (k + 1)) hx hb d_Mod_type_81 hl (k := 1) rfl (nI_add k 1) (by decide) rfl (fun ls hl => ?_)
          have hl : lv_has ls 8 [(6, .int (nI (k + 1))), (7, .int (nI (b k))), (5, .int (nI (nw_cnt (fun i => b i ≠ 0) (k + 1)))), (0, .ref hM), (1, .long x1), (3, .long x2)] := hl
          refine lv_goto hx hb d_Mod_type_84 (tgt := 11) (by decide) ?_
          exact ih1 (k + 1, t) (⟨by omega, by
            rcases ht with ⟨h1, h2⟩ | ⟨h1, i, h2, h3⟩
            · refine Or.inl ⟨h1, fun i hi => ?_⟩
              by_cases e : i = k
              · rw [e]; exact hgood
              · exact h2 i (by omega)
            · exact Or.inr ⟨h1, i, by omega, h3⟩⟩) (show 16 - (k + 1) < 16 - k by omega) _ _ _ (lv_sub hl [0, 2, 3, 4, 5] rfl) hP hD hS
        · rw [nw_eq0 (by omega)] at q9
          refine lv_iinc (v := nI ((nw_cnt (fun i => b i ≠ 0) k) + 1)) hx hb d_Mod_type_78 hl (k := 2) rfl (nI_add (nw_cnt (fun i => b i ≠ 0) k) 1) (by decide) rfl (fun ls hl => ?_)
          have hl : lv_has ls 8 [(5, .int (nI ((nw_cnt (fun i => b i ≠ 0) k) + 1))), (7, .int (nI (b k))), (6, .int (nI k)), (0, .ref hM), (1, .long x1), (3, .long x2)] := hl
          rw [← nw_cnt_pos (f := fun i => b i ≠ 0) (n := k) q9] at hl
          have hl : lv_has ls 8 [(5, .int (nI (nw_cnt (fun i => b i ≠ 0) (k + 1)))), (7, .int (nI (b k))), (6, .int (nI k)), (0, .ref hM), (1, .long x1), (3, .long x2)] := hl
          refine lv_iinc (v := nI (k + 1)) hx hb d_Mod_type_81 hl (k := 2) rfl (nI_add k 1) (by decide) rfl (fun ls hl => ?_)
          have hl : lv_has ls 8 [(6, .int (nI (k + 1))), (5, .int (nI (nw_cnt (fun i => b i ≠ 0) (k + 1)))), (7, .int (nI (b k))), (0, .ref hM), (1, .long x1), (3, .long x2)] := hl
          refine lv_goto hx hb d_Mod_type_84 (tgt := 11) (by decide) ?_
          exact ih1 (k + 1, t) (⟨by omega, by
            rcases ht with ⟨h1, h2⟩ | ⟨h1, i, h2, h3⟩
            · refine Or.inl ⟨h1, fun i hi => ?_⟩
              by_cases e : i = k
              · rw [e]; exact hgood
              · exact h2 i (by omega)
            · exact Or.inr ⟨h1, i, by omega, h3⟩⟩) (show 16 - (k + 1) < 16 - k by omega) _ _ _ (lv_sub hl [0, 1, 3, 4, 5] rfl) hP hD hS
      · rw [nw_eq0 (by omega)] at r1
        refine lv_iload hx hb d_Mod_type_54 (lv_at hl 0 rfl) ?_
        refine lv_bipush (v := nI 33) hx hb d_Mod_type_56 (by decide) ?_
        refine lv_icmp_lt hx hb d_Mod_type_58 (tgt := 68) (by decide) (fun r2 => ?_) (fun r2 => ?_)
        · rw [nI_ltI (by omega) (by omega)] at r2
          have hbadk : (b k ≠ 0 ∧ (b k < 33 ∨ 126 < b k)) := ⟨r1, Or.inl r2⟩
          refine lv_aload_n hx hb d_Mod_type_68 rfl (lv_at hl 3 rfl) ?_
          refine lv_iconst (v := nI 1) hx hb d_Mod_type_69 (by decide) ?_
          refine va_put (D := (dC, dI)) (ci := 1) (v := .int (nI 1)) (ty := .int) (C := R_Mod) (T := F_Mod) (N := 16) hx hb hts hin_Mod t_Mod t_Mod_ok n_Mod hown hK hP hD hS 0 rfl rfl 15 (by decide) (hts _ (nw_mc 187 rfl)) (fun _ h9 => h9) rfl (by decide +kernel) rfl rfl (Nat.le_of_ble_eq_true rfl) d_Mod_type_70 (fun H locs hP hD hS => ?_)
          replace hP : va_P (dC, dI) nw_cls [(hM, .inr (1, [.ref ai, .ref aw, .ref ar, .ref al, .ref aL, .ref aD, .ref ac, .ref af, .ref ap, .ref an, .ref ax, .int (nI isz), .int (nI wn), .int (nI chn), .int (nI rn), .int (nI 1)])), (ai, nw_ai cB 60 I)] H := hP
          replace hD : va_D A [(hM, .inr (1, [.ref ai, .ref aw, .ref ar, .ref al, .ref aL, .ref aD, .ref ac, .ref af, .ref ap, .ref an, .ref ax, .int (nI isz), .int (nI wn), .int (nI chn), .int (nI rn), .int (nI 1)])), (ai, nw_ai cB 60 I)] := hD
          refine lv_iload hx hb d_Mod_type_73 (lv_at hl 0 rfl) ?_
          refine lv_if_eq hx hb d_Mod_type_75 (tgt := 81) (by decide) (fun q9 => ?_) (fun q9 => ?_)
          · rw [nw_eq0 (by omega)] at q9
            rw [← nw_cnt_neg (f := fun i => b i ≠ 0) (n := k) (fun h => h q9)] at hl
            refine lv_iinc (v := nI (k + 1)) hx hb d_Mod_type_81 hl (k := 1) rfl (nI_add k 1) (by decide) rfl (fun ls hl => ?_)
            have hl : lv_has ls 8 [(6, .int (nI (k + 1))), (7, .int (nI (b k))), (5, .int (nI (nw_cnt (fun i => b i ≠ 0) (k + 1)))), (0, .ref hM), (1, .long x1), (3, .long x2)] := hl
            refine lv_goto hx hb d_Mod_type_84 (tgt := 11) (by decide) ?_
            exact ih1 (k + 1, 1) (⟨by omega, Or.inr ⟨rfl, k, by omega, hbadk⟩⟩) (show 16 - (k + 1) < 16 - k by omega) _ _ _ (lv_sub hl [0, 2, 3, 4, 5] rfl) hP hD hS
          · rw [nw_eq0 (by omega)] at q9
            refine lv_iinc (v := nI ((nw_cnt (fun i => b i ≠ 0) k) + 1)) hx hb d_Mod_type_78 hl (k := 2) rfl (nI_add (nw_cnt (fun i => b i ≠ 0) k) 1) (by decide) rfl (fun ls hl => ?_)
            have hl : lv_has ls 8 [(5, .int (nI ((nw_cnt (fun i => b i ≠ 0) k) + 1))), (7, .int (nI (b k))), (6, .int (nI k)), (0, .ref hM), (1, .long x1), (3, .long x2)] := hl
            rw [← nw_cnt_pos (f := fun i => b i ≠ 0) (n := k) q9] at hl
            have hl : lv_has ls 8 [(5, .int (nI (nw_cnt (fun i => b i ≠ 0) (k + 1)))), (7, .int (nI (b k))), (6, .int (nI k)), (0, .ref hM), (1, .long x1), (3, .long x2)] := hl
            refine lv_iinc (v := nI (k + 1)) hx hb d_Mod_type_81 hl (k := 2) rfl (nI_add k 1) (by decide) rfl (fun ls hl => ?_)
            have hl : lv_has ls 8 [(6, .int (nI (k + 1))), (5, .int (nI (nw_cnt (fun i => b i ≠ 0) (k + 1)))), (7, .int (nI (b k))), (0, .ref hM), (1, .long x1), (3, .long x2)] := hl
            refine lv_goto hx hb d_Mod_type_84 (tgt := 11) (by decide) ?_
            exact ih1 (k + 1, 1) (⟨by omega, Or.inr ⟨rfl, k, by omega, hbadk⟩⟩) (show 16 - (k + 1) < 16 - k by omega) _ _ _ (lv_sub hl [0, 1, 3, 4, 5] rfl) hP hD hS
        · rw [nI_ltI (by omega) (by omega)] at r2
          refine lv_iload hx hb d_Mod_type_61 (lv_at hl 0 rfl) ?_
          refine lv_bipush (v := nI 126) hx hb d_Mod_type_63 (by decide) ?_
          refine lv_icmp_le hx hb d_Mod_type_65 (tgt := 73) (by decide) (fun r3 => ?_) (fun r3 => ?_)
          · rw [nI_leI (by omega) (by omega)] at r3
            have hgood : ¬ (b k ≠ 0 ∧ (b k < 33 ∨ 126 < b k)) := fun h => by omega
            refine lv_iload hx hb d_Mod_type_73 (lv_at hl 0 rfl) ?_
            refine lv_if_eq hx hb d_Mod_type_75 (tgt := 81) (by decide) (fun q9 => ?_) (fun q9 => ?_)
            · rw [nw_eq0 (by omega)] at q9
              rw [← nw_cnt_neg (f := fun i => b i ≠ 0) (n := k) (fun h => h q9)] at hl
              refine lv_iinc (v := nI (k + 1)) hx hb d_Mod_type_81 hl (k := 1) rfl (nI_add k 1) (by decide) rfl (fun ls hl => ?_)
              have hl : lv_has ls 8 [(6, .int (nI (k + 1))), (7, .int (nI (b k))), (5, .int (nI (nw_cnt (fun i => b i ≠ 0) (k + 1)))), (0, .ref hM), (1, .long x1), (3, .long x2)] := hl
              refine lv_goto hx hb d_Mod_type_84 (tgt := 11) (by decide) ?_
              exact ih1 (k + 1, t) (⟨by omega, by
                rcases ht with ⟨h1, h2⟩ | ⟨h1, i, h2, h3⟩
                · refine Or.inl ⟨h1, fun i hi => ?_⟩
                  by_cases e : i = k
                  · rw [e]; exact hgood
                  · exact h2 i (by omega)
                · exact Or.inr ⟨h1, i, by omega, h3⟩⟩) (show 16 - (k + 1) < 16 - k by omega) _ _ _ (lv_sub hl [0, 2, 3, 4, 5] rfl) hP hD hS
            · rw [nw_eq0 (by omega)] at q9
              refine lv_iinc (v := nI ((nw_cnt (fun i => b i ≠ 0) k) + 1)) hx hb d_Mod_type_78 hl (k := 2) rfl (nI_add (nw_cnt (fun i => b i ≠ 0) k) 1) (by decide) rfl (fun ls hl => ?_)
              have hl : lv_has ls 8 [(5, .int (nI ((nw_cnt (fun i => b i ≠ 0) k) + 1))), (7, .int (nI (b k))), (6, .int (nI k)), (0, .ref hM), (1, .long x1), (3, .long x2)] := hl
              rw [← nw_cnt_pos (f := fun i => b i ≠ 0) (n := k) q9] at hl
              have hl : lv_has ls 8 [(5, .int (nI (nw_cnt (fun i => b i ≠ 0) (k + 1)))), (7, .int (nI (b k))), (6, .int (nI k)), (0, .ref hM), (1, .long x1), (3, .long x2)] := hl
              refine lv_iinc (v := nI (k + 1)) hx hb d_Mod_type_81 hl (k := 2) rfl (nI_add k 1) (by decide) rfl (fun ls hl => ?_)
              have hl : lv_has ls 8 [(6, .int (nI (k + 1))), (5, .int (nI (nw_cnt (fun i => b i ≠ 0) (k + 1)))), (7, .int (nI (b k))), (0, .ref hM), (1, .long x1), (3, .long x2)] := hl
              refine lv_goto hx hb d_Mod_type_84 (tgt := 11) (by decide) ?_
              exact ih1 (k + 1, t) (⟨by omega, by
                rcases ht with ⟨h1, h2⟩ | ⟨h1, i, h2, h3⟩
                · refine Or.inl ⟨h1, fun i hi => ?_⟩
                  by_cases e : i = k
                  · rw [e]; exact hgood
                  · exact h2 i (by omega)
                · exact Or.inr ⟨h1, i, by omega, h3⟩⟩) (show 16 - (k + 1) < 16 - k by omega) _ _ _ (lv_sub hl [0, 1, 3, 4, 5] rfl) hP hD hS
          · rw [nI_leI (by omega) (by omega)] at r3
            have hbadk : (b k ≠ 0 ∧ (b k < 33 ∨ 126 < b k)) := ⟨r1, Or.inr (by omega)⟩
            refine lv_aload_n hx hb d_Mod_type_68 rfl (lv_at hl 3 rfl) ?_
            refine lv_iconst (v := nI 1) hx hb d_Mod_type_69 (by decide) ?_
            refine va_put (D := (dC, dI)) (ci := 1) (v := .int (nI 1)) (ty := .int) (C := R_Mod) (T := F_Mod) (N := 16) hx hb hts hin_Mod t_Mod t_Mod_ok n_Mod hown hK hP hD hS 0 rfl rfl 15 (by decide) (hts _ (nw_mc 187 rfl)) (fun _ h9 => h9) rfl (by decide +kernel) rfl rfl (Nat.le_of_ble_eq_true rfl) d_Mod_type_70 (fun H locs hP hD hS => ?_)
            replace hP : va_P (dC, dI) nw_cls [(hM, .inr (1, [.ref ai, .ref aw, .ref ar, .ref al, .ref aL, .ref aD, .ref ac, .ref af, .ref ap, .ref an, .ref ax, .int (nI isz), .int (nI wn), .int (nI chn), .int (nI rn), .int (nI 1)])), (ai, nw_ai cB 60 I)] H := hP
            replace hD : va_D A [(hM, .inr (1, [.ref ai, .ref aw, .ref ar, .ref al, .ref aL, .ref aD, .ref ac, .ref af, .ref ap, .ref an, .ref ax, .int (nI isz), .int (nI wn), .int (nI chn), .int (nI rn), .int (nI 1)])), (ai, nw_ai cB 60 I)] := hD
            refine lv_iload hx hb d_Mod_type_73 (lv_at hl 0 rfl) ?_
            refine lv_if_eq hx hb d_Mod_type_75 (tgt := 81) (by decide) (fun q9 => ?_) (fun q9 => ?_)
            · rw [nw_eq0 (by omega)] at q9
              rw [← nw_cnt_neg (f := fun i => b i ≠ 0) (n := k) (fun h => h q9)] at hl
              refine lv_iinc (v := nI (k + 1)) hx hb d_Mod_type_81 hl (k := 1) rfl (nI_add k 1) (by decide) rfl (fun ls hl => ?_)
              have hl : lv_has ls 8 [(6, .int (nI (k + 1))), (7, .int (nI (b k))), (5, .int (nI (nw_cnt (fun i => b i ≠ 0) (k + 1)))), (0, .ref hM), (1, .long x1), (3, .long x2)] := hl
              refine lv_goto hx hb d_Mod_type_84 (tgt := 11) (by decide) ?_
              exact ih1 (k + 1, 1) (⟨by omega, Or.inr ⟨rfl, k, by omega, hbadk⟩⟩) (show 16 - (k + 1) < 16 - k by omega) _ _ _ (lv_sub hl [0, 2, 3, 4, 5] rfl) hP hD hS
            · rw [nw_eq0 (by omega)] at q9
              refine lv_iinc (v := nI ((nw_cnt (fun i => b i ≠ 0) k) + 1)) hx hb d_Mod_type_78 hl (k := 2) rfl (nI_add (nw_cnt (fun i => b i ≠ 0) k) 1) (by decide) rfl (fun ls hl => ?_)
              have hl : lv_has ls 8 [(5, .int (nI ((nw_cnt (fun i => b i ≠ 0) k) + 1))), (7, .int (nI (b k))), (6, .int (nI k)), (0, .ref hM), (1, .long x1), (3, .long x2)] := hl
              rw [← nw_cnt_pos (f := fun i => b i ≠ 0) (n := k) q9] at hl
              have hl : lv_has ls 8 [(5, .int (nI (nw_cnt (fun i => b i ≠ 0) (k + 1)))), (7, .int (nI (b k))), (6, .int (nI k)), (0, .ref hM), (1, .long x1), (3, .long x2)] := hl
              refine lv_iinc (v := nI (k + 1)) hx hb d_Mod_type_81 hl (k := 2) rfl (nI_add k 1) (by decide) rfl (fun ls hl => ?_)
              have hl : lv_has ls 8 [(6, .int (nI (k + 1))), (5, .int (nI (nw_cnt (fun i => b i ≠ 0) (k + 1)))), (7, .int (nI (b k))), (0, .ref hM), (1, .long x1), (3, .long x2)] := hl
              refine lv_goto hx hb d_Mod_type_84 (tgt := 11) (by decide) ?_
              exact ih1 (k + 1, 1) (⟨by omega, Or.inr ⟨rfl, k, by omega, hbadk⟩⟩) (show 16 - (k + 1) < 16 - k by omega) _ _ _ (lv_sub hl [0, 1, 3, 4, 5] rfl) hP hD hS

set_option maxHeartbeats 4000000 in
set_option maxRecDepth 100000 in
theorem c_Mod_type_ok (l : Launch) (dC : Nat → ClassId) (dI : Nat → Nat → Nat) (sz : Nat) (cB : ClassId) (hM ai aw ar al aL aD ac af ap an ax isz wn chn rn th : Nat) (I : Nat → Nat) (x1 x2 : Int64) (b : Nat → Nat) (hb9 : b = (fun k => if k < 8 then nw_by x1 (56 - k % 8 * 8) else nw_by x2 (56 - k % 8 * 8))) (hn : isz ≤ 60) (hok : ∀ k, k < 16 → ¬ (b k ≠ 0 ∧ (b k < 33 ∨ 126 < b k))) (hroom : isz + nw_cnt (fun i => b i ≠ 0) 16 ≤ 60) (hI0 : ∀ j, I j < 128) : Met l y_Mod_type w_Mod_type ({ frames := 0, cells := 0, slots := 0, locals := 0 }) (nw_Pw [.ref hM, .long x1, .long x2] (dC, dI) nw_cls [(cB, .byte)] [(hM, .inr (1, [.ref ai, .ref aw, .ref ar, .ref al, .ref aL, .ref aD, .ref ac, .ref af, .ref ap, .ref an, .ref ax, .int (nI isz), .int (nI wn), .int (nI chn), .int (nI rn), .int (nI th)])), (ai, nw_ai cB 60 I)] sz) (va_Qi (fun (r : Int32) (u : Nat → Nat) => r = nI (isz + nw_cnt (fun i => b i ≠ 0) 16) ∧ ((∀ j, j < isz → u j = I j) ∧ (∀ i, i < 16 → b i ≠ 0 → u (isz + nw_cnt (fun i => b i ≠ 0) i) = b i) ∧ ∀ j, u j < 128)) (nw_B (dC, dI) nw_cls (va_A [(hM, .inr (1, [.ref ai, .ref aw, .ref ar, .ref al, .ref aL, .ref aD, .ref ac, .ref af, .ref ap, .ref an, .ref ax, .int (nI isz), .int (nI wn), .int (nI chn), .int (nI rn), .int (nI th)])), (ai, nw_ai cB 60 I)] sz) (fun u => [(hM, .inr (1, [.ref ai, .ref aw, .ref ar, .ref al, .ref aL, .ref aD, .ref ac, .ref af, .ref ap, .ref an, .ref ax, .int (nI (isz + nw_cnt (fun i => b i ≠ 0) 16)), .int (nI wn), .int (nI chn), .int (nI rn), .int (nI 0)])), (ai, nw_ai cB 60 u)])) (va_A [(hM, .inr (1, [.ref ai, .ref aw, .ref ar, .ref al, .ref aL, .ref aD, .ref ac, .ref af, .ref ap, .ref an, .ref ax, .int (nI isz), .int (nI wn), .int (nI chn), .int (nI rn), .int (nI th)])), (ai, nw_ai cB 60 I)] sz)) 0 0 (va_A [(hM, .inr (1, [.ref ai, .ref aw, .ref ar, .ref al, .ref aL, .ref aD, .ref ac, .ref af, .ref ap, .ref an, .ref ax, .int (nI isz), .int (nI wn), .int (nI chn), .int (nI rn), .int (nI th)])), (ai, nw_ai cB 60 I)] sz) := by
  refine Met.ofW (cc := b_Mod_type) (maxL := 8) (ret := (some .int)) (by decide) rfl ?_
  intro p e s m args below meth cd s₁ B hml hv0
  obtain ⟨rfl, hsz, hP, hK, hD0⟩ := hv0
  have hx := B.exec
  have hb := B.bytes
  have hr := B.returns
  have hts := atoms_spec (ws := w_Mod_type) B.pre
  have hown : s.vm.findClass R_Mod = some m.cls := findClass_of_methodNamed B.named
  have hlocks := B.notSynchronized
  subst hsz
  have hD := hD0.self (sz := s.heap.size)
  generalize hAe : va_A [(hM, .inr (1, [.ref ai, .ref aw, .ref ar, .ref al, .ref aL, .ref aD, .ref ac, .ref af, .ref ap, .ref an, .ref ax, .int (nI isz), .int (nI wn), .int (nI chn), .int (nI rn), .int (nI th)])), (ai, nw_ai cB 60 I)] s.heap.size = A at hD ⊢
  have hA : ∀ q : Nat, s.heap.size ≤ q → A q := fun q h => by rw [← hAe]; exact Or.inr h
  have hS : va_S A s.heap s.heap [] := va_S.rf
  have hl := lv_entry ([.ref hM, .long x1, .long x2]) (n := 8) (Nat.le_of_ble_eq_true rfl)
  rw [lg_entry_eq]
  generalize (lg_sl ([.ref hM, .long x1, .long x2]) ++ List.replicate (8 - (lg_sl ([.ref hM, .long x1, .long x2])).length) Slot.unset).toArray = ls at hl ⊢
  have hl : lv_has ls 8 [(0, .ref hM), (1, .long x1), (3, .long x2)] := hl
  have hbl : ∀ k, b k < 256 := fun k => by
    rw [hb9]; dsimp only
    split <;> exact nw_by_lt _ _
  refine lv_iconst (v := nI 0) hx hb d_Mod_type_0 (by decide) ?_
  refine lv_istore hx hb d_Mod_type_1 hl (by decide) rfl (fun ls hl => ?_)
  replace hl : lv_has ls 8 [(5, .int (nI 0)), (0, .ref hM), (1, .long x1), (3, .long x2)] := hl
  refine lv_aload_n hx hb d_Mod_type_3 rfl (lv_at hl 1 rfl) ?_
  refine lv_iconst (v := nI 0) hx hb d_Mod_type_4 (by decide) ?_
  refine va_put (D := (dC, dI)) (ci := 1) (v := .int (nI 0)) (ty := .int) (C := R_Mod) (T := F_Mod) (N := 16) hx hb hts hin_Mod t_Mod t_Mod_ok n_Mod hown hK hP hD hS 0 rfl rfl 15 (by decide) (hts _ (nw_mc 187 rfl)) (fun _ h9 => h9) rfl (by decide +kernel) rfl rfl (Nat.le_of_ble_eq_true rfl) d_Mod_type_5 (fun H locs hP hD hS => ?_)
  replace hP : va_P (dC, dI) nw_cls [(hM, .inr (1, [.ref ai, .ref aw, .ref ar, .ref al, .ref aL, .ref aD, .ref ac, .ref af, .ref ap, .ref an, .ref ax, .int (nI isz), .int (nI wn), .int (nI chn), .int (nI rn), .int (nI 0)])), (ai, nw_ai cB 60 I)] H := hP
  replace hD : va_D A [(hM, .inr (1, [.ref ai, .ref aw, .ref ar, .ref al, .ref aL, .ref aD, .ref ac, .ref af, .ref ap, .ref an, .ref ax, .int (nI isz), .int (nI wn), .int (nI chn), .int (nI rn), .int (nI 0)])), (ai, nw_ai cB 60 I)] := hD
  refine lv_iconst (v := nI 0) hx hb d_Mod_type_8 (by decide) ?_
  refine lv_istore hx hb d_Mod_type_9 hl (by decide) rfl (fun ls hl => ?_)
  replace hl : lv_has ls 8 [(6, .int (nI 0)), (5, .int (nI 0)), (0, .ref hM), (1, .long x1), (3, .long x2)] := hl
  refine nw_loopW (σ := Nat × Nat) (fun x => match x with | (k, t) => k ≤ 16 ∧ ((t = 0 ∧ ∀ i, i < k → ¬ (b i ≠ 0 ∧ (b i < 33 ∨ 126 < b i))) ∨ (t = 1 ∧ ∃ i, i < k ∧ (b i ≠ 0 ∧ (b i < 33 ∨ 126 < b i))))) (fun x => match x with | (k, t) => [(6, .int (nI k)), (5, .int (nI (nw_cnt (fun i => b i ≠ 0) k))), (0, .ref hM), (1, .long x1), (3, .long x2)]) (fun x => match x with | (k, t) => [(hM, .inr (1, [.ref ai, .ref aw, .ref ar, .ref al, .ref aL, .ref aD, .ref ac, .ref af, .ref ap, .ref an, .ref ax, .int (nI isz), .int (nI wn), .int (nI chn), .int (nI rn), .int (nI t)])), (ai, nw_ai cB 60 I)]) (fun x => match x with | (k, t) => 16 - k) (fun x hA1 ih1 ls H locs hl hP hD hS => ?_) (0, 0) (⟨Nat.zero_le _, Or.inl ⟨rfl, fun i h => absurd h (Nat.not_lt_zero i)⟩⟩) hl hP hD hS
  obtain ⟨k, t⟩ := x
  replace hA1 : k ≤ 16 ∧ ((t = 0 ∧ ∀ i, i < k → ¬ (b i ≠ 0 ∧ (b i < 33 ∨ 126 < b i))) ∨ (t = 1 ∧ ∃ i, i < k ∧ (b i ≠ 0 ∧ (b i < 33 ∨ 126 < b i)))) := hA1
  replace hl : lv_has ls 8 [(6, .int (nI k)), (5, .int (nI (nw_cnt (fun i => b i ≠ 0) k))), (0, .ref hM), (1, .long x1), (3, .long x2)] := hl
  replace hP : va_P (dC, dI) nw_cls [(hM, .inr (1, [.ref ai, .ref aw, .ref ar, .ref al, .ref aL, .ref aD, .ref ac, .ref af, .ref ap, .ref an, .ref ax, .int (nI isz), .int (nI wn), .int (nI chn), .int (nI rn), .int (nI t)])), (ai, nw_ai cB 60 I)] H := hP
  replace hD : va_D A [(hM, .inr (1, [.ref ai, .ref aw, .ref ar, .ref al, .ref aL, .ref aD, .ref ac, .ref af, .ref ap, .ref an, .ref ax, .int (nI isz), .int (nI wn), .int (nI chn), .int (nI rn), .int (nI t)])), (ai, nw_ai cB 60 I)] := hD
  obtain ⟨hk, ht⟩ := hA1
  have hcn := nw_cnt_le (fun i => b i ≠ 0) k
  have hbk := hbl k
  refine lv_iload hx hb d_Mod_type_11 (lv_at hl 0 rfl) ?_
  refine lv_bipush (v := nI 16) hx hb d_Mod_type_13 (by decide) ?_
  refine lv_icmp_ge hx hb d_Mod_type_15 (tgt := 87) (by decide) (fun q7 => ?_) (fun q7 => ?_)
  · rw [nI_leI (by omega) (by omega)] at q7
    have hk9 : k = 16 := by omega
    rw [hk9] at hl ht hcn
    have hl : lv_has ls 8 [(6, .int (nI 16)), (5, .int (nI (nw_cnt (fun i => b i ≠ 0) 16))), (0, .ref hM), (1, .long x1), (3, .long x2)] := hl
    obtain ⟨ht0, hz⟩ | ⟨ht0, hz⟩ := ht
    · rw [ht0] at hP hD
      refine lv_aload_n hx hb d_Mod_type_87 rfl (lv_at hl 2 rfl) ?_
      refine va_get (D := (dC, dI)) (ci := 1) (v := .int (nI 0)) (C := R_Mod) (T := F_Mod) (N := 16) hx hb hts hin_Mod hown hK hP 0 rfl rfl 15 (by decide) (hts _ (nw_mc 187 rfl)) (fun _ h9 => h9) rfl d_Mod_type_88 ?_
      refine lv_if_ne hx hb d_Mod_type_91 (tgt := 111) (by decide) (fun s1 => ?_) (fun s1 => ?_)
      · rw [nw_eq0 (by omega)] at s1
        omega
      · rw [nw_eq0 (by omega)] at s1
        refine lv_aload_n hx hb d_Mod_type_94 rfl (lv_at hl 2 rfl) ?_
        refine va_get (D := (dC, dI)) (ci := 1) (v := .int (nI isz)) (C := R_Mod) (T := F_Mod) (N := 16) hx hb hts hin_Mod hown hK hP 0 rfl rfl 11 (by decide) (hts _ (nw_mc 188 rfl)) (fun _ h9 => h9) rfl d_Mod_type_95 ?_
        refine lv_iload hx hb d_Mod_type_98 (lv_at hl 1 rfl) ?_
        refine lv_iadd hx hb d_Mod_type_100 ?_
        refine nw_ti (nI_add isz (nw_cnt (fun i => b i ≠ 0) 16)) ?_
        refine lv_bipush (v := nI 60) hx hb d_Mod_type_101 (by decide) ?_
        refine lv_icmp_le hx hb d_Mod_type_103 (tgt := 111) (by decide) (fun s2 => ?_) (fun s2 => ?_)
        · rw [nI_leI (by omega) (by omega)] at s2
          refine lv_aload_n hx hb d_Mod_type_111 rfl (lv_at hl 2 rfl) ?_
          refine va_get (D := (dC, dI)) (ci := 1) (v := .int (nI 0)) (C := R_Mod) (T := F_Mod) (N := 16) hx hb hts hin_Mod hown hK hP 0 rfl rfl 15 (by decide) (hts _ (nw_mc 187 rfl)) (fun _ h9 => h9) rfl d_Mod_type_112 ?_
          refine lv_if_eq hx hb d_Mod_type_115 (tgt := 120) (by decide) (fun s3 => ?_) (fun s3 => ?_)
          · rw [nw_eq0 (by omega)] at s3
            refine lv_iconst (v := nI 0) hx hb d_Mod_type_120 (by decide) ?_
            refine lv_istore hx hb d_Mod_type_121 hl (by decide) rfl (fun ls hl => ?_)
            replace hl : lv_has ls 8 [(6, .int (nI 0)), (5, .int (nI (nw_cnt (fun i => b i ≠ 0) 16))), (0, .ref hM), (1, .long x1), (3, .long x2)] := hl
            clear hk9
            refine nw_loopW (σ := Nat × (Nat → Nat)) (fun x => match x with | (k, f) => k ≤ 16 ∧ ((∀ j, j < isz → f j = I j) ∧ (∀ i, i < k → b i ≠ 0 → f (isz + nw_cnt (fun i => b i ≠ 0) i) = b i) ∧ ∀ j, f j < 128)) (fun x => match x with | (k, f) => [(6, .int (nI k)), (5, .int (nI (nw_cnt (fun i => b i ≠ 0) 16))), (0, .ref hM), (1, .long x1), (3, .long x2)]) (fun x => match x with | (k, f) => [(hM, .inr (1, [.ref ai, .ref aw, .ref ar, .ref al, .ref aL, .ref aD, .ref ac, .ref af, .ref ap, .ref an, .ref ax, .int (nI (isz + nw_cnt (fun i => b i ≠ 0) k)), .int (nI wn), .int (nI chn), .int (nI rn), .int (nI 0)])), (ai, nw_ai cB 60 f)]) (fun x => match x with | (k, f) => 16 - k) (fun x hA2 ih2 ls H locs hl hP hD hS => ?_) (0, I) (⟨Nat.zero_le _, fun j _ => rfl, fun i h => absurd h (Nat.not_lt_zero i), hI0⟩) hl hP hD hS
            obtain ⟨k, f⟩ := x
            replace hA2 : k ≤ 16 ∧ ((∀ j, j < isz → f j = I j) ∧ (∀ i, i < k → b i ≠ 0 → f (isz + nw_cnt (fun i => b i ≠ 0) i) = b i) ∧ ∀ j, f j < 128) := hA2
            replace hl : lv_has ls 8 [(6, .int (nI k)), (5, .int (nI (nw_cnt (fun i => b i ≠ 0) 16))), (0, .ref hM), (1, .long x1), (3, .long x2)] := hl
            replace hP : va_P (dC, dI) nw_cls [(hM, .inr (1, [.ref ai, .ref aw, .ref ar, .ref al, .ref aL, .ref aD, .ref ac, .ref af, .ref ap, .ref an, .ref ax, .int (nI (isz + nw_cnt (fun i => b i ≠ 0) k)), .int (nI wn), .int (nI chn), .int (nI rn), .int (nI 0)])), (ai, nw_ai cB 60 f)] H := hP
            replace hD : va_D A [(hM, .inr (1, [.ref ai, .ref aw, .ref ar, .ref al, .ref aL, .ref aD, .ref ac, .ref af, .ref ap, .ref an, .ref ax, .int (nI (isz + nw_cnt (fun i => b i ≠ 0) k)), .int (nI wn), .int (nI chn), .int (nI rn), .int (nI 0)])), (ai, nw_ai cB 60 f)] := hD
            obtain ⟨hk, hf1, hf2, hf3⟩ := hA2
            have hcn := nw_cnt_mono (fun i => b i ≠ 0) (i := k) (j := 16) hk
            have hbk := hbl k
            refine lv_iload hx hb d_Mod_type_123 (lv_at hl 0 rfl) ?_
            refine lv_bipush (v := nI 16) hx hb d_Mod_type_125 (by decide) ?_
            refine lv_icmp_ge hx hb d_Mod_type_127 (tgt := 197) (by decide) (fun q7 => ?_) (fun q7 => ?_)
            · rw [nI_leI (by omega) (by omega)] at q7
              have hk9 : k = 16 := by omega
              rw [hk9] at hP hD hf2
              refine lv_aload_n hx hb d_Mod_type_197 rfl (lv_at hl 2 rfl) ?_
              refine va_get (D := (dC, dI)) (ci := 1) (v := .int (nI (isz + nw_cnt (fun i => b i ≠ 0) 16))) (C := R_Mod) (T := F_Mod) (N := 16) hx hb hts hin_Mod hown hK hP 0 rfl rfl 11 (by decide) (hts _ (nw_mc 188 rfl)) (fun _ h9 => h9) rfl d_Mod_type_198 ?_
              exact W.iret (v := nI (isz + nw_cnt (fun i => b i ≠ 0) 16)) hx hb hr (fun t ht hW => ⟨⟨_, f, rfl, ⟨rfl, hf1, hf2, hf3⟩, by rw [ht]; exact hP, hD⟩, hS.F ht⟩) hS.2.2 d_Mod_type_201
            · rw [nI_leI (by omega) (by omega)] at q7
              refine lv_iload hx hb d_Mod_type_130 (lv_at hl 0 rfl) ?_
              refine lv_bipush (v := nI 8) hx hb d_Mod_type_132 (by decide) ?_
              refine lv_icmp_ge hx hb d_Mod_type_134 (tgt := 141) (by decide) (fun q8 => ?_) (fun q8 => ?_)
              · rw [nI_leI (by omega) (by omega)] at q8
                refine lv_lload_n hx hb d_Mod_type_141 rfl (lv_at hl 4 rfl) ?_
                refine lv_bipush (v := nI 56) hx hb d_Mod_type_142 (by decide) ?_
                refine lv_iload hx hb d_Mod_type_144 (lv_at hl 0 rfl) ?_
                refine lv_bipush (v := nI 8) hx hb d_Mod_type_146 (by decide) ?_
                refine lv_irem hx hb d_Mod_type_148 (by decide) ?_
                refine nw_ti (pk_rem (a := k) (d := 8) (by omega) (by decide) (by decide)) ?_
                refine lv_bipush (v := nI 8) hx hb d_Mod_type_149 (by decide) ?_
                refine lv_imul hx hb d_Mod_type_151 ?_
                refine nw_ti (pk_mul (k % 8) 8) ?_
                refine lv_isub hx hb d_Mod_type_152 ?_
                refine nw_ti (pk_sub (a := 56) (b := ((k % 8) * 8)) (by omega)) ?_
                refine nw_ti (y := nI (56 - k % 8 * 8)) (congrArg nI (show 56 - ((k % 8) * 8) = 56 - k % 8 * 8 by omega)) ?_
                refine lv_lushr (v := (x2.toUInt64 >>> ((nI (56 - k % 8 * 8)).toInt64.toUInt64 &&& Int64.toUInt64 63)).toInt64) hx hb d_Mod_type_153 (rfl) ?_
                refine lv_l2i (v := (x2.toUInt64 >>> ((nI (56 - k % 8 * 8)).toInt64.toUInt64 &&& Int64.toUInt64 63)).toInt64.toInt32) hx hb d_Mod_type_154 (rfl) ?_
                refine lv_sipush (v := nI 255) hx hb d_Mod_type_155 (by decide) ?_
                refine lv_iand hx hb d_Mod_type_158 ?_
                refine nw_ti (y := nI (b k)) ((nw_byte x2 (sh := 56 - k % 8 * 8) (by omega)).trans (congrArg nI (by rw [hb9]; exact (if_neg (by omega)).symm))) ?_
                refine lv_istore hx hb d_Mod_type_159 hl (by decide) rfl (fun ls hl => ?_)
                replace hl : lv_has ls 8 [(7, .int (nI (b k))), (6, .int (nI k)), (5, .int (nI (nw_cnt (fun i => b i ≠ 0) 16))), (0, .ref hM), (1, .long x1), (3, .long x2)] := hl
                refine lv_iload hx hb d_Mod_type_161 (lv_at hl 0 rfl) ?_
                refine lv_if_ne hx hb d_Mod_type_163 (tgt := 169) (by decide) (fun r1 => ?_) (fun r1 => ?_)
                · rw [nw_eq0 (by omega)] at r1
                  have hlt := nw_cnt_lt (f := fun i => b i ≠ 0) (i := k) (n := 16) (by omega) r1
                  have hgk := hok k (by omega)
                  refine lv_aload_n hx hb d_Mod_type_169 rfl (lv_at hl 3 rfl) ?_
                  refine va_get (D := (dC, dI)) (ci := 1) (v := .ref ai) (C := R_Mod) (T := F_Mod) (N := 16) hx hb hts hin_Mod hown hK hP 0 rfl rfl 0 (by decide) (hts _ (nw_mc 173 rfl)) (fun _ h9 => h9) rfl d_Mod_type_170 ?_
                  refine lv_aload_n hx hb d_Mod_type_173 rfl (lv_at hl 3 rfl) ?_
                  refine va_get (D := (dC, dI)) (ci := 1) (v := .int (nI (isz + nw_cnt (fun i => b i ≠ 0) k))) (C := R_Mod) (T := F_Mod) (N := 16) hx hb hts hin_Mod hown hK hP 0 rfl rfl 11 (by decide) (hts _ (nw_mc 188 rfl)) (fun _ h9 => h9) rfl d_Mod_type_174 ?_
                  refine lv_iload hx hb d_Mod_type_177 (lv_at hl 0 rfl) ?_
                  refine lv_i2b (v := nI (b k)) hx hb d_Mod_type_179 (nw_nb _ (by omega)) ?_
                  refine nw_bast hx hb hK hP hD hS 1 0 rfl rfl (k := (isz + nw_cnt (fun i => b i ≠ 0) k)) (v := (b k)) (by omega) (by first | decide | omega) (by omega) d_Mod_type_180 (fun H locs hP hD hS => ?_)
                  replace hP : va_P (dC, dI) nw_cls [(hM, .inr (1, [.ref ai, .ref aw, .ref ar, .ref al, .ref aL, .ref aD, .ref ac, .ref af, .ref ap, .ref an, .ref ax, .int (nI (isz + nw_cnt (fun i => b i ≠ 0) k)), .int (nI wn), .int (nI chn), .int (nI rn), .int (nI 0)])), (ai, nw_ai cB 60 (va_up f (isz + nw_cnt (fun i => b i ≠ 0) k) (b k)))] H := hP
                  replace hD : va_D A [(hM, .inr (1, [.ref ai, .ref aw, .ref ar, .ref al, .ref aL, .ref aD, .ref ac, .ref af, .ref ap, .ref an, .ref ax, .int (nI (isz + nw_cnt (fun i => b i ≠ 0) k)), .int (nI wn), .int (nI chn), .int (nI rn), .int (nI 0)])), (ai, nw_ai cB 60 (va_up f (isz + nw_cnt (fun i => b i ≠ 0) k) (b k)))] := hD
                  refine lv_aload_n hx hb d_Mod_type_181 rfl (lv_at hl 3 rfl) ?_
                  refine lv_dup hx hb d_Mod_type_182 rfl ?_
                  refine va_get (D := (dC, dI)) (ci := 1) (v := .int (nI (isz + nw_cnt (fun i => b i ≠ 0) k))) (C := R_Mod) (T := F_Mod) (N := 16) hx hb hts hin_Mod hown hK hP 0 rfl rfl 11 (by decide) (hts _ (nw_mc 188 rfl)) (fun _ h9 => h9) rfl d_Mod_type_183 ?_
                  refine lv_iconst (v := nI 1) hx hb d_Mod_type_186 (by decide) ?_
                  refine lv_iadd hx hb d_Mod_type_187 ?_
                  refine nw_ti (nI_add (isz + nw_cnt (fun i => b i ≠ 0) k) 1) ?_
                  refine va_put (D := (dC, dI)) (ci := 1) (v := .int (nI ((isz + nw_cnt (fun i => b i ≠ 0) k) + 1))) (ty := .int) (C := R_Mod) (T := F_Mod) (N := 16) hx hb hts hin_Mod t_Mod t_Mod_ok n_Mod hown hK hP hD hS 0 rfl rfl 11 (by decide) (hts _ (nw_mc 188 rfl)) (fun _ h9 => h9) rfl (by decide +kernel) rfl rfl (Nat.le_of_ble_eq_true rfl) d_Mod_type_188 (fun H locs hP hD hS => ?_)
                  replace hP : va_P (dC, dI) nw_cls [(hM, .inr (1, [.ref ai, .ref aw, .ref ar, .ref al, .ref aL, .ref aD, .ref ac, .ref af, .ref ap, .ref an, .ref ax, .int (nI ((isz + nw_cnt (fun i => b i ≠ 0) k) + 1)), .int (nI wn), .int (nI chn), .int (nI rn), .int (nI 0)])), (ai, nw_ai cB 60 (va_up f (isz + nw_cnt (fun i => b i ≠ 0) k) (b k)))] H := hP
                  replace hD : va_D A [(hM, .inr (1, [.ref ai, .ref aw, .ref ar, .ref al, .ref aL, .ref aD, .ref ac, .ref af, .ref ap, .ref an, .ref ax, .int (nI ((isz + nw_cnt (fun i => b i ≠ 0) k) + 1)), .int (nI wn), .int (nI chn), .int (nI rn), .int (nI 0)])), (ai, nw_ai cB 60 (va_up f (isz + nw_cnt (fun i => b i ≠ 0) k) (b k)))] := hD
                  have e9 : isz + nw_cnt (fun i => b i ≠ 0) k + 1 = isz + nw_cnt (fun i => b i ≠ 0) (k + 1) := by rw [nw_cnt_pos (f := fun i => b i ≠ 0) (n := k) r1]; omega
                  rw [e9] at hP hD
                  replace hP : va_P (dC, dI) nw_cls [(hM, .inr (1, [.ref ai, .ref aw, .ref ar, .ref al, .ref aL, .ref aD, .ref ac, .ref af, .ref ap, .ref an, .ref ax, .int (nI (isz + nw_cnt (fun i => b i ≠ 0) (k + 1))), .int (nI wn), .int (nI chn), .int (nI rn), .int (nI 0)])), (ai, nw_ai cB 60 (va_up f (isz + nw_cnt (fun i => b i ≠ 0) k) (b k)))] H := hP
                  replace hD : va_D A [(hM, .inr (1, [.ref ai, .ref aw, .ref ar, .ref al, .ref aL, .ref aD, .ref ac, .ref af, .ref ap, .ref an, .ref ax, .int (nI (isz + nw_cnt (fun i => b i ≠ 0) (k + 1))), .int (nI wn), .int (nI chn), .int (nI rn), .int (nI 0)])), (ai, nw_ai cB 60 (va_up f (isz + nw_cnt (fun i => b i ≠ 0) k) (b k)))] := hD
                  refine lv_iinc (v := nI (k + 1)) hx hb d_Mod_type_191 hl (k := 1) rfl (nI_add k 1) (by decide) rfl (fun ls hl => ?_)
                  have hl : lv_has ls 8 [(6, .int (nI (k + 1))), (7, .int (nI (b k))), (5, .int (nI (nw_cnt (fun i => b i ≠ 0) 16))), (0, .ref hM), (1, .long x1), (3, .long x2)] := hl
                  refine lv_goto hx hb d_Mod_type_194 (tgt := 123) (by decide) ?_
                  exact ih2 (k + 1, va_up f (isz + nw_cnt (fun i => b i ≠ 0) k) (b k)) (⟨by omega, fun j hj => (va_up_ne f _ (by omega)).trans (hf1 j hj), fun i hi hb => by
                    by_cases e : i = k
                    · rw [e]; exact va_up_self f _ _
                    · have h1 := nw_cnt_lt (f := fun i => b i ≠ 0) (i := i) (n := k) (by omega) hb
                      exact (va_up_ne f _ (by omega)).trans (hf2 i (by omega) hb), fun j => by
                    by_cases e : j = isz + nw_cnt (fun i => b i ≠ 0) k
                    · rw [e, va_up_self]; omega
                    · rw [va_up_ne _ _ e]; exact hf3 j⟩) (show 16 - (k + 1) < 16 - k by omega) _ _ _ (lv_sub hl [0, 2, 3, 4, 5] rfl) hP hD hS
                · rw [nw_eq0 (by omega)] at r1
                  refine lv_goto hx hb d_Mod_type_166 (tgt := 191) (by decide) ?_
                  have e9 : isz + nw_cnt (fun i => b i ≠ 0) k = isz + nw_cnt (fun i => b i ≠ 0) (k + 1) := by rw [nw_cnt_neg (f := fun i => b i ≠ 0) (n := k) (fun h => h r1)]
                  rw [e9] at hP hD
                  refine lv_iinc (v := nI (k + 1)) hx hb d_Mod_type_191 hl (k := 1) rfl (nI_add k 1) (by decide) rfl (fun ls hl => ?_)
                  have hl : lv_has ls 8 [(6, .int (nI (k + 1))), (7, .int (nI (b k))), (5, .int (nI (nw_cnt (fun i => b i ≠ 0) 16))), (0, .ref hM), (1, .long x1), (3, .long x2)] := hl
                  refine lv_goto hx hb d_Mod_type_194 (tgt := 123) (by decide) ?_
                  exact ih2 (k + 1, f) (⟨by omega, hf1, fun i hi hb => by
                    by_cases e : i = k
                    · rw [e] at hb; exact absurd r1 hb
                    · exact hf2 i (by omega) hb, hf3⟩) (show 16 - (k + 1) < 16 - k by omega) _ _ _ (lv_sub hl [0, 2, 3, 4, 5] rfl) hP hD hS
              · rw [nI_leI (by omega) (by omega)] at q8
                refine lv_lload_n hx hb d_Mod_type_137 rfl (lv_at hl 3 rfl) ?_
                refine lv_goto hx hb d_Mod_type_138 (tgt := 142) (by decide) ?_
                refine lv_bipush (v := nI 56) hx hb d_Mod_type_142 (by decide) ?_
                refine lv_iload hx hb d_Mod_type_144 (lv_at hl 0 rfl) ?_
                refine lv_bipush (v := nI 8) hx hb d_Mod_type_146 (by decide) ?_
                refine lv_irem hx hb d_Mod_type_148 (by decide) ?_
                refine nw_ti (pk_rem (a := k) (d := 8) (by omega) (by decide) (by decide)) ?_
                refine lv_bipush (v := nI 8) hx hb d_Mod_type_149 (by decide) ?_
                refine lv_imul hx hb d_Mod_type_151 ?_
                refine nw_ti (pk_mul (k % 8) 8) ?_
                refine lv_isub hx hb d_Mod_type_152 ?_
                refine nw_ti (pk_sub (a := 56) (b := ((k % 8) * 8)) (by omega)) ?_
                refine nw_ti (y := nI (56 - k % 8 * 8)) (congrArg nI (show 56 - ((k % 8) * 8) = 56 - k % 8 * 8 by omega)) ?_
                refine lv_lushr (v := (x1.toUInt64 >>> ((nI (56 - k % 8 * 8)).toInt64.toUInt64 &&& Int64.toUInt64 63)).toInt64) hx hb d_Mod_type_153 (rfl) ?_
                refine lv_l2i (v := (x1.toUInt64 >>> ((nI (56 - k % 8 * 8)).toInt64.toUInt64 &&& Int64.toUInt64 63)).toInt64.toInt32) hx hb d_Mod_type_154 (rfl) ?_
                refine lv_sipush (v := nI 255) hx hb d_Mod_type_155 (by decide) ?_
                refine lv_iand hx hb d_Mod_type_158 ?_
                refine nw_ti (y := nI (b k)) ((nw_byte x1 (sh := 56 - k % 8 * 8) (by omega)).trans (congrArg nI (by rw [hb9]; exact (if_pos (by omega)).symm))) ?_
                refine lv_istore hx hb d_Mod_type_159 hl (by decide) rfl (fun ls hl => ?_)
                replace hl : lv_has ls 8 [(7, .int (nI (b k))), (6, .int (nI k)), (5, .int (nI (nw_cnt (fun i => b i ≠ 0) 16))), (0, .ref hM), (1, .long x1), (3, .long x2)] := hl
                refine lv_iload hx hb d_Mod_type_161 (lv_at hl 0 rfl) ?_
                refine lv_if_ne hx hb d_Mod_type_163 (tgt := 169) (by decide) (fun r1 => ?_) (fun r1 => ?_)
                · rw [nw_eq0 (by omega)] at r1
                  have hlt := nw_cnt_lt (f := fun i => b i ≠ 0) (i := k) (n := 16) (by omega) r1
                  have hgk := hok k (by omega)
                  refine lv_aload_n hx hb d_Mod_type_169 rfl (lv_at hl 3 rfl) ?_
                  refine va_get (D := (dC, dI)) (ci := 1) (v := .ref ai) (C := R_Mod) (T := F_Mod) (N := 16) hx hb hts hin_Mod hown hK hP 0 rfl rfl 0 (by decide) (hts _ (nw_mc 173 rfl)) (fun _ h9 => h9) rfl d_Mod_type_170 ?_
                  refine lv_aload_n hx hb d_Mod_type_173 rfl (lv_at hl 3 rfl) ?_
                  refine va_get (D := (dC, dI)) (ci := 1) (v := .int (nI (isz + nw_cnt (fun i => b i ≠ 0) k))) (C := R_Mod) (T := F_Mod) (N := 16) hx hb hts hin_Mod hown hK hP 0 rfl rfl 11 (by decide) (hts _ (nw_mc 188 rfl)) (fun _ h9 => h9) rfl d_Mod_type_174 ?_
                  refine lv_iload hx hb d_Mod_type_177 (lv_at hl 0 rfl) ?_
                  refine lv_i2b (v := nI (b k)) hx hb d_Mod_type_179 (nw_nb _ (by omega)) ?_
                  refine nw_bast hx hb hK hP hD hS 1 0 rfl rfl (k := (isz + nw_cnt (fun i => b i ≠ 0) k)) (v := (b k)) (by omega) (by first | decide | omega) (by omega) d_Mod_type_180 (fun H locs hP hD hS => ?_)
                  replace hP : va_P (dC, dI) nw_cls [(hM, .inr (1, [.ref ai, .ref aw, .ref ar, .ref al, .ref aL, .ref aD, .ref ac, .ref af, .ref ap, .ref an, .ref ax, .int (nI (isz + nw_cnt (fun i => b i ≠ 0) k)), .int (nI wn), .int (nI chn), .int (nI rn), .int (nI 0)])), (ai, nw_ai cB 60 (va_up f (isz + nw_cnt (fun i => b i ≠ 0) k) (b k)))] H := hP
                  replace hD : va_D A [(hM, .inr (1, [.ref ai, .ref aw, .ref ar, .ref al, .ref aL, .ref aD, .ref ac, .ref af, .ref ap, .ref an, .ref ax, .int (nI (isz + nw_cnt (fun i => b i ≠ 0) k)), .int (nI wn), .int (nI chn), .int (nI rn), .int (nI 0)])), (ai, nw_ai cB 60 (va_up f (isz + nw_cnt (fun i => b i ≠ 0) k) (b k)))] := hD
                  refine lv_aload_n hx hb d_Mod_type_181 rfl (lv_at hl 3 rfl) ?_
                  refine lv_dup hx hb d_Mod_type_182 rfl ?_
                  refine va_get (D := (dC, dI)) (ci := 1) (v := .int (nI (isz + nw_cnt (fun i => b i ≠ 0) k))) (C := R_Mod) (T := F_Mod) (N := 16) hx hb hts hin_Mod hown hK hP 0 rfl rfl 11 (by decide) (hts _ (nw_mc 188 rfl)) (fun _ h9 => h9) rfl d_Mod_type_183 ?_
                  refine lv_iconst (v := nI 1) hx hb d_Mod_type_186 (by decide) ?_
                  refine lv_iadd hx hb d_Mod_type_187 ?_
                  refine nw_ti (nI_add (isz + nw_cnt (fun i => b i ≠ 0) k) 1) ?_
                  refine va_put (D := (dC, dI)) (ci := 1) (v := .int (nI ((isz + nw_cnt (fun i => b i ≠ 0) k) + 1))) (ty := .int) (C := R_Mod) (T := F_Mod) (N := 16) hx hb hts hin_Mod t_Mod t_Mod_ok n_Mod hown hK hP hD hS 0 rfl rfl 11 (by decide) (hts _ (nw_mc 188 rfl)) (fun _ h9 => h9) rfl (by decide +kernel) rfl rfl (Nat.le_of_ble_eq_true rfl) d_Mod_type_188 (fun H locs hP hD hS => ?_)
                  replace hP : va_P (dC, dI) nw_cls [(hM, .inr (1, [.ref ai, .ref aw, .ref ar, .ref al, .ref aL, .ref aD, .ref ac, .ref af, .ref ap, .ref an, .ref ax, .int (nI ((isz + nw_cnt (fun i => b i ≠ 0) k) + 1)), .int (nI wn), .int (nI chn), .int (nI rn), .int (nI 0)])), (ai, nw_ai cB 60 (va_up f (isz + nw_cnt (fun i => b i ≠ 0) k) (b k)))] H := hP
                  replace hD : va_D A [(hM, .inr (1, [.ref ai, .ref aw, .ref ar, .ref al, .ref aL, .ref aD, .ref ac, .ref af, .ref ap, .ref an, .ref ax, .int (nI ((isz + nw_cnt (fun i => b i ≠ 0) k) + 1)), .int (nI wn), .int (nI chn), .int (nI rn), .int (nI 0)])), (ai, nw_ai cB 60 (va_up f (isz + nw_cnt (fun i => b i ≠ 0) k) (b k)))] := hD
                  have e9 : isz + nw_cnt (fun i => b i ≠ 0) k + 1 = isz + nw_cnt (fun i => b i ≠ 0) (k + 1) := by rw [nw_cnt_pos (f := fun i => b i ≠ 0) (n := k) r1]; omega
                  rw [e9] at hP hD
                  replace hP : va_P (dC, dI) nw_cls [(hM, .inr (1, [.ref ai, .ref aw, .ref ar, .ref al, .ref aL, .ref aD, .ref ac, .ref af, .ref ap, .ref an, .ref ax, .int (nI (isz + nw_cnt (fun i => b i ≠ 0) (k + 1))), .int (nI wn), .int (nI chn), .int (nI rn), .int (nI 0)])), (ai, nw_ai cB 60 (va_up f (isz + nw_cnt (fun i => b i ≠ 0) k) (b k)))] H := hP
                  replace hD : va_D A [(hM, .inr (1, [.ref ai, .ref aw, .ref ar, .ref al, .ref aL, .ref aD, .ref ac, .ref af, .ref ap, .ref an, .ref ax, .int (nI (isz + nw_cnt (fun i => b i ≠ 0) (k + 1))), .int (nI wn), .int (nI chn), .int (nI rn), .int (nI 0)])), (ai, nw_ai cB 60 (va_up f (isz + nw_cnt (fun i => b i ≠ 0) k) (b k)))] := hD
                  refine lv_iinc (v := nI (k + 1)) hx hb d_Mod_type_191 hl (k := 1) rfl (nI_add k 1) (by decide) rfl (fun ls hl => ?_)
                  have hl : lv_has ls 8 [(6, .int (nI (k + 1))), (7, .int (nI (b k))), (5, .int (nI (nw_cnt (fun i => b i ≠ 0) 16))), (0, .ref hM), (1, .long x1), (3, .long x2)] := hl
                  refine lv_goto hx hb d_Mod_type_194 (tgt := 123) (by decide) ?_
                  exact ih2 (k + 1, va_up f (isz + nw_cnt (fun i => b i ≠ 0) k) (b k)) (⟨by omega, fun j hj => (va_up_ne f _ (by omega)).trans (hf1 j hj), fun i hi hb => by
                    by_cases e : i = k
                    · rw [e]; exact va_up_self f _ _
                    · have h1 := nw_cnt_lt (f := fun i => b i ≠ 0) (i := i) (n := k) (by omega) hb
                      exact (va_up_ne f _ (by omega)).trans (hf2 i (by omega) hb), fun j => by
                    by_cases e : j = isz + nw_cnt (fun i => b i ≠ 0) k
                    · rw [e, va_up_self]; omega
                    · rw [va_up_ne _ _ e]; exact hf3 j⟩) (show 16 - (k + 1) < 16 - k by omega) _ _ _ (lv_sub hl [0, 2, 3, 4, 5] rfl) hP hD hS
                · rw [nw_eq0 (by omega)] at r1
                  refine lv_goto hx hb d_Mod_type_166 (tgt := 191) (by decide) ?_
                  have e9 : isz + nw_cnt (fun i => b i ≠ 0) k = isz + nw_cnt (fun i => b i ≠ 0) (k + 1) := by rw [nw_cnt_neg (f := fun i => b i ≠ 0) (n := k) (fun h => h r1)]
                  rw [e9] at hP hD
                  refine lv_iinc (v := nI (k + 1)) hx hb d_Mod_type_191 hl (k := 1) rfl (nI_add k 1) (by decide) rfl (fun ls hl => ?_)
                  have hl : lv_has ls 8 [(6, .int (nI (k + 1))), (7, .int (nI (b k))), (5, .int (nI (nw_cnt (fun i => b i ≠ 0) 16))), (0, .ref hM), (1, .long x1), (3, .long x2)] := hl
                  refine lv_goto hx hb d_Mod_type_194 (tgt := 123) (by decide) ?_
                  exact ih2 (k + 1, f) (⟨by omega, hf1, fun i hi hb => by
                    by_cases e : i = k
                    · rw [e] at hb; exact absurd r1 hb
                    · exact hf2 i (by omega) hb, hf3⟩) (show 16 - (k + 1) < 16 - k by omega) _ _ _ (lv_sub hl [0, 2, 3, 4, 5] rfl) hP hD hS
          · rw [nw_eq0 (by omega)] at s3
            omega
        · rw [nI_leI (by omega) (by omega)] at s2
          omega
    · exact absurd hz (fun ⟨i, h1, h2⟩ => hok i h1 h2)
  · rw [nI_leI (by omega) (by omega)] at q7
    refine lv_iload hx hb d_Mod_type_18 (lv_at hl 0 rfl) ?_
    refine lv_bipush (v := nI 8) hx hb d_Mod_type_20 (by decide) ?_
    refine lv_icmp_ge hx hb d_Mod_type_22 (tgt := 29) (by decide) (fun q8 => ?_) (fun q8 => ?_)
    · rw [nI_leI (by omega) (by omega)] at q8
      refine lv_lload_n hx hb d_Mod_type_29 rfl (lv_at hl 4 rfl) ?_
      refine lv_bipush (v := nI 56) hx hb d_Mod_type_30 (by decide) ?_
      refine lv_iload hx hb d_Mod_type_32 (lv_at hl 0 rfl) ?_
      refine lv_bipush (v := nI 8) hx hb d_Mod_type_34 (by decide) ?_
      refine lv_irem hx hb d_Mod_type_36 (by decide) ?_
      refine nw_ti (pk_rem (a := k) (d := 8) (by omega) (by decide) (by decide)) ?_
      refine lv_bipush (v := nI 8) hx hb d_Mod_type_37 (by decide) ?_
      refine lv_imul hx hb d_Mod_type_39 ?_
      refine nw_ti (pk_mul (k % 8) 8) ?_
      refine lv_isub hx hb d_Mod_type_40 ?_
      refine nw_ti (pk_sub (a := 56) (b := ((k % 8) * 8)) (by omega)) ?_
      refine nw_ti (y := nI (56 - k % 8 * 8)) (congrArg nI (show 56 - ((k % 8) * 8) = 56 - k % 8 * 8 by omega)) ?_
      refine lv_lushr (v := (x2.toUInt64 >>> ((nI (56 - k % 8 * 8)).toInt64.toUInt64 &&& Int64.toUInt64 63)).toInt64) hx hb d_Mod_type_41 (rfl) ?_
      refine lv_l2i (v := (x2.toUInt64 >>> ((nI (56 - k % 8 * 8)).toInt64.toUInt64 &&& Int64.toUInt64 63)).toInt64.toInt32) hx hb d_Mod_type_42 (rfl) ?_
      refine lv_sipush (v := nI 255) hx hb d_Mod_type_43 (by decide) ?_
      refine lv_iand hx hb d_Mod_type_46 ?_
      refine nw_ti (y := nI (b k)) ((nw_byte x2 (sh := 56 - k % 8 * 8) (by omega)).trans (congrArg nI (by rw [hb9]; exact (if_neg (by omega)).symm))) ?_
      refine lv_istore hx hb d_Mod_type_47 hl (by decide) rfl (fun ls hl => ?_)
      replace hl : lv_has ls 8 [(7, .int (nI (b k))), (6, .int (nI k)), (5, .int (nI (nw_cnt (fun i => b i ≠ 0) k))), (0, .ref hM), (1, .long x1), (3, .long x2)] := hl
      refine lv_iload hx hb d_Mod_type_49 (lv_at hl 0 rfl) ?_
      refine lv_if_eq hx hb d_Mod_type_51 (tgt := 73) (by decide) (fun r1 => ?_) (fun r1 => ?_)
      · rw [nw_eq0 (by omega)] at r1
        have hgood : ¬ (b k ≠ 0 ∧ (b k < 33 ∨ 126 < b k)) := fun h => h.1 r1
        refine lv_iload hx hb d_Mod_type_73 (lv_at hl 0 rfl) ?_
        refine lv_if_eq hx hb d_Mod_type_75 (tgt := 81) (by decide) (fun q9 => ?_) (fun q9 => ?_)
        · rw [nw_eq0 (by omega)] at q9
          rw [← nw_cnt_neg (f := fun i => b i ≠ 0) (n := k) (fun h => h q9)] at hl
          refine lv_iinc (v := nI (k + 1)) hx hb d_Mod_type_81 hl (k := 1) rfl (nI_add k 1) (by decide) rfl (fun ls hl => ?_)
          have hl : lv_has ls 8 [(6, .int (nI (k + 1))), (7, .int (nI (b k))), (5, .int (nI (nw_cnt (fun i => b i ≠ 0) (k + 1)))), (0, .ref hM), (1, .long x1), (3, .long x2)] := hl
          refine lv_goto hx hb d_Mod_type_84 (tgt := 11) (by decide) ?_
          exact ih1 (k + 1, t) (⟨by omega, by
            rcases ht with ⟨h1, h2⟩ | ⟨h1, i, h2, h3⟩
            · refine Or.inl ⟨h1, fun i hi => ?_⟩
              by_cases e : i = k
              · rw [e]; exact hgood
              · exact h2 i (by omega)
            · exact Or.inr ⟨h1, i, by omega, h3⟩⟩) (show 16 - (k + 1) < 16 - k by omega) _ _ _ (lv_sub hl [0, 2, 3, 4, 5] rfl) hP hD hS
        · rw [nw_eq0 (by omega)] at q9
          refine lv_iinc (v := nI ((nw_cnt (fun i => b i ≠ 0) k) + 1)) hx hb d_Mod_type_78 hl (k := 2) rfl (nI_add (nw_cnt (fun i => b i ≠ 0) k) 1) (by decide) rfl (fun ls hl => ?_)
          have hl : lv_has ls 8 [(5, .int (nI ((nw_cnt (fun i => b i ≠ 0) k) + 1))), (7, .int (nI (b k))), (6, .int (nI k)), (0, .ref hM), (1, .long x1), (3, .long x2)] := hl
          rw [← nw_cnt_pos (f := fun i => b i ≠ 0) (n := k) q9] at hl
          have hl : lv_has ls 8 [(5, .int (nI (nw_cnt (fun i => b i ≠ 0) (k + 1)))), (7, .int (nI (b k))), (6, .int (nI k)), (0, .ref hM), (1, .long x1), (3, .long x2)] := hl
          refine lv_iinc (v := nI (k + 1)) hx hb d_Mod_type_81 hl (k := 2) rfl (nI_add k 1) (by decide) rfl (fun ls hl => ?_)
          have hl : lv_has ls 8 [(6, .int (nI (k + 1))), (5, .int (nI (nw_cnt (fun i => b i ≠ 0) (k + 1)))), (7, .int (nI (b k))), (0, .ref hM), (1, .long x1), (3, .long x2)] := hl
          refine lv_goto hx hb d_Mod_type_84 (tgt := 11) (by decide) ?_
          exact ih1 (k + 1, t) (⟨by omega, by
            rcases ht with ⟨h1, h2⟩ | ⟨h1, i, h2, h3⟩
            · refine Or.inl ⟨h1, fun i hi => ?_⟩
              by_cases e : i = k
              · rw [e]; exact hgood
              · exact h2 i (by omega)
            · exact Or.inr ⟨h1, i, by omega, h3⟩⟩) (show 16 - (k + 1) < 16 - k by omega) _ _ _ (lv_sub hl [0, 1, 3, 4, 5] rfl) hP hD hS
      · rw [nw_eq0 (by omega)] at r1
        refine lv_iload hx hb d_Mod_type_54 (lv_at hl 0 rfl) ?_
        refine lv_bipush (v := nI 33) hx hb d_Mod_type_56 (by decide) ?_
        refine lv_icmp_lt hx hb d_Mod_type_58 (tgt := 68) (by decide) (fun r2 => ?_) (fun r2 => ?_)
        · rw [nI_ltI (by omega) (by omega)] at r2
          have hbadk : (b k ≠ 0 ∧ (b k < 33 ∨ 126 < b k)) := ⟨r1, Or.inl r2⟩
          refine lv_aload_n hx hb d_Mod_type_68 rfl (lv_at hl 3 rfl) ?_
          refine lv_iconst (v := nI 1) hx hb d_Mod_type_69 (by decide) ?_
          refine va_put (D := (dC, dI)) (ci := 1) (v := .int (nI 1)) (ty := .int) (C := R_Mod) (T := F_Mod) (N := 16) hx hb hts hin_Mod t_Mod t_Mod_ok n_Mod hown hK hP hD hS 0 rfl rfl 15 (by decide) (hts _ (nw_mc 187 rfl)) (fun _ h9 => h9) rfl (by decide +kernel) rfl rfl (Nat.le_of_ble_eq_true rfl) d_Mod_type_70 (fun H locs hP hD hS => ?_)
          replace hP : va_P (dC, dI) nw_cls [(hM, .inr (1, [.ref ai, .ref aw, .ref ar, .ref al, .ref aL, .ref aD, .ref ac, .ref af, .ref ap, .ref an, .ref ax, .int (nI isz), .int (nI wn), .int (nI chn), .int (nI rn), .int (nI 1)])), (ai, nw_ai cB 60 I)] H := hP
          replace hD : va_D A [(hM, .inr (1, [.ref ai, .ref aw, .ref ar, .ref al, .ref aL, .ref aD, .ref ac, .ref af, .ref ap, .ref an, .ref ax, .int (nI isz), .int (nI wn), .int (nI chn), .int (nI rn), .int (nI 1)])), (ai, nw_ai cB 60 I)] := hD
          refine lv_iload hx hb d_Mod_type_73 (lv_at hl 0 rfl) ?_
          refine lv_if_eq hx hb d_Mod_type_75 (tgt := 81) (by decide) (fun q9 => ?_) (fun q9 => ?_)
          · rw [nw_eq0 (by omega)] at q9
            rw [← nw_cnt_neg (f := fun i => b i ≠ 0) (n := k) (fun h => h q9)] at hl
            refine lv_iinc (v := nI (k + 1)) hx hb d_Mod_type_81 hl (k := 1) rfl (nI_add k 1) (by decide) rfl (fun ls hl => ?_)
            have hl : lv_has ls 8 [(6, .int (nI (k + 1))), (7, .int (nI (b k))), (5, .int (nI (nw_cnt (fun i => b i ≠ 0) (k + 1)))), (0, .ref hM), (1, .long x1), (3, .long x2)] := hl
            refine lv_goto hx hb d_Mod_type_84 (tgt := 11) (by decide) ?_
            exact ih1 (k + 1, 1) (⟨by omega, Or.inr ⟨rfl, k, by omega, hbadk⟩⟩) (show 16 - (k + 1) < 16 - k by omega) _ _ _ (lv_sub hl [0, 2, 3, 4, 5] rfl) hP hD hS
          · rw [nw_eq0 (by omega)] at q9
            refine lv_iinc (v := nI ((nw_cnt (fun i => b i ≠ 0) k) + 1)) hx hb d_Mod_type_78 hl (k := 2) rfl (nI_add (nw_cnt (fun i => b i ≠ 0) k) 1) (by decide) rfl (fun ls hl => ?_)
            have hl : lv_has ls 8 [(5, .int (nI ((nw_cnt (fun i => b i ≠ 0) k) + 1))), (7, .int (nI (b k))), (6, .int (nI k)), (0, .ref hM), (1, .long x1), (3, .long x2)] := hl
            rw [← nw_cnt_pos (f := fun i => b i ≠ 0) (n := k) q9] at hl
            have hl : lv_has ls 8 [(5, .int (nI (nw_cnt (fun i => b i ≠ 0) (k + 1)))), (7, .int (nI (b k))), (6, .int (nI k)), (0, .ref hM), (1, .long x1), (3, .long x2)] := hl
            refine lv_iinc (v := nI (k + 1)) hx hb d_Mod_type_81 hl (k := 2) rfl (nI_add k 1) (by decide) rfl (fun ls hl => ?_)
            have hl : lv_has ls 8 [(6, .int (nI (k + 1))), (5, .int (nI (nw_cnt (fun i => b i ≠ 0) (k + 1)))), (7, .int (nI (b k))), (0, .ref hM), (1, .long x1), (3, .long x2)] := hl
            refine lv_goto hx hb d_Mod_type_84 (tgt := 11) (by decide) ?_
            exact ih1 (k + 1, 1) (⟨by omega, Or.inr ⟨rfl, k, by omega, hbadk⟩⟩) (show 16 - (k + 1) < 16 - k by omega) _ _ _ (lv_sub hl [0, 1, 3, 4, 5] rfl) hP hD hS
        · rw [nI_ltI (by omega) (by omega)] at r2
          refine lv_iload hx hb d_Mod_type_61 (lv_at hl 0 rfl) ?_
          refine lv_bipush (v := nI 126) hx hb d_Mod_type_63 (by decide) ?_
          refine lv_icmp_le hx hb d_Mod_type_65 (tgt := 73) (by decide) (fun r3 => ?_) (fun r3 => ?_)
          · rw [nI_leI (by omega) (by omega)] at r3
            have hgood : ¬ (b k ≠ 0 ∧ (b k < 33 ∨ 126 < b k)) := fun h => by omega
            refine lv_iload hx hb d_Mod_type_73 (lv_at hl 0 rfl) ?_
            refine lv_if_eq hx hb d_Mod_type_75 (tgt := 81) (by decide) (fun q9 => ?_) (fun q9 => ?_)
            · rw [nw_eq0 (by omega)] at q9
              rw [← nw_cnt_neg (f := fun i => b i ≠ 0) (n := k) (fun h => h q9)] at hl
              refine lv_iinc (v := nI (k + 1)) hx hb d_Mod_type_81 hl (k := 1) rfl (nI_add k 1) (by decide) rfl (fun ls hl => ?_)
              have hl : lv_has ls 8 [(6, .int (nI (k + 1))), (7, .int (nI (b k))), (5, .int (nI (nw_cnt (fun i => b i ≠ 0) (k + 1)))), (0, .ref hM), (1, .long x1), (3, .long x2)] := hl
              refine lv_goto hx hb d_Mod_type_84 (tgt := 11) (by decide) ?_
              exact ih1 (k + 1, t) (⟨by omega, by
                rcases ht with ⟨h1, h2⟩ | ⟨h1, i, h2, h3⟩
                · refine Or.inl ⟨h1, fun i hi => ?_⟩
                  by_cases e : i = k
                  · rw [e]; exact hgood
                  · exact h2 i (by omega)
                · exact Or.inr ⟨h1, i, by omega, h3⟩⟩) (show 16 - (k + 1) < 16 - k by omega) _ _ _ (lv_sub hl [0, 2, 3, 4, 5] rfl) hP hD hS
            · rw [nw_eq0 (by omega)] at q9
              refine lv_iinc (v := nI ((nw_cnt (fun i => b i ≠ 0) k) + 1)) hx hb d_Mod_type_78 hl (k := 2) rfl (nI_add (nw_cnt (fun i => b i ≠ 0) k) 1) (by decide) rfl (fun ls hl => ?_)
              have hl : lv_has ls 8 [(5, .int (nI ((nw_cnt (fun i => b i ≠ 0) k) + 1))), (7, .int (nI (b k))), (6, .int (nI k)), (0, .ref hM), (1, .long x1), (3, .long x2)] := hl
              rw [← nw_cnt_pos (f := fun i => b i ≠ 0) (n := k) q9] at hl
              have hl : lv_has ls 8 [(5, .int (nI (nw_cnt (fun i => b i ≠ 0) (k + 1)))), (7, .int (nI (b k))), (6, .int (nI k)), (0, .ref hM), (1, .long x1), (3, .long x2)] := hl
              refine lv_iinc (v := nI (k + 1)) hx hb d_Mod_type_81 hl (k := 2) rfl (nI_add k 1) (by decide) rfl (fun ls hl => ?_)
              have hl : lv_has ls 8 [(6, .int (nI (k + 1))), (5, .int (nI (nw_cnt (fun i => b i ≠ 0) (k + 1)))), (7, .int (nI (b k))), (0, .ref hM), (1, .long x1), (3, .long x2)] := hl
              refine lv_goto hx hb d_Mod_type_84 (tgt := 11) (by decide) ?_
              exact ih1 (k + 1, t) (⟨by omega, by
                rcases ht with ⟨h1, h2⟩ | ⟨h1, i, h2, h3⟩
                · refine Or.inl ⟨h1, fun i hi => ?_⟩
                  by_cases e : i = k
                  · rw [e]; exact hgood
                  · exact h2 i (by omega)
                · exact Or.inr ⟨h1, i, by omega, h3⟩⟩) (show 16 - (k + 1) < 16 - k by omega) _ _ _ (lv_sub hl [0, 1, 3, 4, 5] rfl) hP hD hS
          · rw [nI_leI (by omega) (by omega)] at r3
            have hbadk : (b k ≠ 0 ∧ (b k < 33 ∨ 126 < b k)) := ⟨r1, Or.inr (by omega)⟩
            refine lv_aload_n hx hb d_Mod_type_68 rfl (lv_at hl 3 rfl) ?_
            refine lv_iconst (v := nI 1) hx hb d_Mod_type_69 (by decide) ?_
            refine va_put (D := (dC, dI)) (ci := 1) (v := .int (nI 1)) (ty := .int) (C := R_Mod) (T := F_Mod) (N := 16) hx hb hts hin_Mod t_Mod t_Mod_ok n_Mod hown hK hP hD hS 0 rfl rfl 15 (by decide) (hts _ (nw_mc 187 rfl)) (fun _ h9 => h9) rfl (by decide +kernel) rfl rfl (Nat.le_of_ble_eq_true rfl) d_Mod_type_70 (fun H locs hP hD hS => ?_)
            replace hP : va_P (dC, dI) nw_cls [(hM, .inr (1, [.ref ai, .ref aw, .ref ar, .ref al, .ref aL, .ref aD, .ref ac, .ref af, .ref ap, .ref an, .ref ax, .int (nI isz), .int (nI wn), .int (nI chn), .int (nI rn), .int (nI 1)])), (ai, nw_ai cB 60 I)] H := hP
            replace hD : va_D A [(hM, .inr (1, [.ref ai, .ref aw, .ref ar, .ref al, .ref aL, .ref aD, .ref ac, .ref af, .ref ap, .ref an, .ref ax, .int (nI isz), .int (nI wn), .int (nI chn), .int (nI rn), .int (nI 1)])), (ai, nw_ai cB 60 I)] := hD
            refine lv_iload hx hb d_Mod_type_73 (lv_at hl 0 rfl) ?_
            refine lv_if_eq hx hb d_Mod_type_75 (tgt := 81) (by decide) (fun q9 => ?_) (fun q9 => ?_)
            · rw [nw_eq0 (by omega)] at q9
              rw [← nw_cnt_neg (f := fun i => b i ≠ 0) (n := k) (fun h => h q9)] at hl
              refine lv_iinc (v := nI (k + 1)) hx hb d_Mod_type_81 hl (k := 1) rfl (nI_add k 1) (by decide) rfl (fun ls hl => ?_)
              have hl : lv_has ls 8 [(6, .int (nI (k + 1))), (7, .int (nI (b k))), (5, .int (nI (nw_cnt (fun i => b i ≠ 0) (k + 1)))), (0, .ref hM), (1, .long x1), (3, .long x2)] := hl
              refine lv_goto hx hb d_Mod_type_84 (tgt := 11) (by decide) ?_
              exact ih1 (k + 1, 1) (⟨by omega, Or.inr ⟨rfl, k, by omega, hbadk⟩⟩) (show 16 - (k + 1) < 16 - k by omega) _ _ _ (lv_sub hl [0, 2, 3, 4, 5] rfl) hP hD hS
            · rw [nw_eq0 (by omega)] at q9
              refine lv_iinc (v := nI ((nw_cnt (fun i => b i ≠ 0) k) + 1)) hx hb d_Mod_type_78 hl (k := 2) rfl (nI_add (nw_cnt (fun i => b i ≠ 0) k) 1) (by decide) rfl (fun ls hl => ?_)
              have hl : lv_has ls 8 [(5, .int (nI ((nw_cnt (fun i => b i ≠ 0) k) + 1))), (7, .int (nI (b k))), (6, .int (nI k)), (0, .ref hM), (1, .long x1), (3, .long x2)] := hl
              rw [← nw_cnt_pos (f := fun i => b i ≠ 0) (n := k) q9] at hl
              have hl : lv_has ls 8 [(5, .int (nI (nw_cnt (fun i => b i ≠ 0) (k + 1)))), (7, .int (nI (b k))), (6, .int (nI k)), (0, .ref hM), (1, .long x1), (3, .long x2)] := hl
              refine lv_iinc (v := nI (k + 1)) hx hb d_Mod_type_81 hl (k := 2) rfl (nI_add k 1) (by decide) rfl (fun ls hl => ?_)
              have hl : lv_has ls 8 [(6, .int (nI (k + 1))), (5, .int (nI (nw_cnt (fun i => b i ≠ 0) (k + 1)))), (7, .int (nI (b k))), (0, .ref hM), (1, .long x1), (3, .long x2)] := hl
              refine lv_goto hx hb d_Mod_type_84 (tgt := 11) (by decide) ?_
              exact ih1 (k + 1, 1) (⟨by omega, Or.inr ⟨rfl, k, by omega, hbadk⟩⟩) (show 16 - (k + 1) < 16 - k by omega) _ _ _ (lv_sub hl [0, 1, 3, 4, 5] rfl) hP hD hS
    · rw [nI_leI (by omega) (by omega)] at q8
      refine lv_lload_n hx hb d_Mod_type_25 rfl (lv_at hl 3 rfl) ?_
      refine lv_goto hx hb d_Mod_type_26 (tgt := 30) (by decide) ?_
      refine lv_bipush (v := nI 56) hx hb d_Mod_type_30 (by decide) ?_
      refine lv_iload hx hb d_Mod_type_32 (lv_at hl 0 rfl) ?_
      refine lv_bipush (v := nI 8) hx hb d_Mod_type_34 (by decide) ?_
      refine lv_irem hx hb d_Mod_type_36 (by decide) ?_
      refine nw_ti (pk_rem (a := k) (d := 8) (by omega) (by decide) (by decide)) ?_
      refine lv_bipush (v := nI 8) hx hb d_Mod_type_37 (by decide) ?_
      refine lv_imul hx hb d_Mod_type_39 ?_
      refine nw_ti (pk_mul (k % 8) 8) ?_
      refine lv_isub hx hb d_Mod_type_40 ?_
      refine nw_ti (pk_sub (a := 56) (b := ((k % 8) * 8)) (by omega)) ?_
      refine nw_ti (y := nI (56 - k % 8 * 8)) (congrArg nI (show 56 - ((k % 8) * 8) = 56 - k % 8 * 8 by omega)) ?_
      refine lv_lushr (v := (x1.toUInt64 >>> ((nI (56 - k % 8 * 8)).toInt64.toUInt64 &&& Int64.toUInt64 63)).toInt64) hx hb d_Mod_type_41 (rfl) ?_
      refine lv_l2i (v := (x1.toUInt64 >>> ((nI (56 - k % 8 * 8)).toInt64.toUInt64 &&& Int64.toUInt64 63)).toInt64.toInt32) hx hb d_Mod_type_42 (rfl) ?_
      refine lv_sipush (v := nI 255) hx hb d_Mod_type_43 (by decide) ?_
      refine lv_iand hx hb d_Mod_type_46 ?_
      refine nw_ti (y := nI (b k)) ((nw_byte x1 (sh := 56 - k % 8 * 8) (by omega)).trans (congrArg nI (by rw [hb9]; exact (if_pos (by omega)).symm))) ?_
      refine lv_istore hx hb d_Mod_type_47 hl (by decide) rfl (fun ls hl => ?_)
      replace hl : lv_has ls 8 [(7, .int (nI (b k))), (6, .int (nI k)), (5, .int (nI (nw_cnt (fun i => b i ≠ 0) k))), (0, .ref hM), (1, .long x1), (3, .long x2)] := hl
      refine lv_iload hx hb d_Mod_type_49 (lv_at hl 0 rfl) ?_
      refine lv_if_eq hx hb d_Mod_type_51 (tgt := 73) (by decide) (fun r1 => ?_) (fun r1 => ?_)
      · rw [nw_eq0 (by omega)] at r1
        have hgood : ¬ (b k ≠ 0 ∧ (b k < 33 ∨ 126 < b k)) := fun h => h.1 r1
        refine lv_iload hx hb d_Mod_type_73 (lv_at hl 0 rfl) ?_
        refine lv_if_eq hx hb d_Mod_type_75 (tgt := 81) (by decide) (fun q9 => ?_) (fun q9 => ?_)
        · rw [nw_eq0 (by omega)] at q9
          rw [← nw_cnt_neg (f := fun i => b i ≠ 0) (n := k) (fun h => h q9)] at hl
          refine lv_iinc (v := nI (k + 1)) hx hb d_Mod_type_81 hl (k := 1) rfl (nI_add k 1) (by decide) rfl (fun ls hl => ?_)
          have hl : lv_has ls 8 [(6, .int (nI (k + 1))), (7, .int (nI (b k))), (5, .int (nI (nw_cnt (fun i => b i ≠ 0) (k + 1)))), (0, .ref hM), (1, .long x1), (3, .long x2)] := hl
          refine lv_goto hx hb d_Mod_type_84 (tgt := 11) (by decide) ?_
          exact ih1 (k + 1, t) (⟨by omega, by
            rcases ht with ⟨h1, h2⟩ | ⟨h1, i, h2, h3⟩
            · refine Or.inl ⟨h1, fun i hi => ?_⟩
              by_cases e : i = k
              · rw [e]; exact hgood
              · exact h2 i (by omega)
            · exact Or.inr ⟨h1, i, by omega, h3⟩⟩) (show 16 - (k + 1) < 16 - k by omega) _ _ _ (lv_sub hl [0, 2, 3, 4, 5] rfl) hP hD hS
        · rw [nw_eq0 (by omega)] at q9
          refine lv_iinc (v := nI ((nw_cnt (fun i => b i ≠ 0) k) + 1)) hx hb d_Mod_type_78 hl (k := 2) rfl (nI_add (nw_cnt (fun i => b i ≠ 0) k) 1) (by decide) rfl (fun ls hl => ?_)
          have hl : lv_has ls 8 [(5, .int (nI ((nw_cnt (fun i => b i ≠ 0) k) + 1))), (7, .int (nI (b k))), (6, .int (nI k)), (0, .ref hM), (1, .long x1), (3, .long x2)] := hl
          rw [← nw_cnt_pos (f := fun i => b i ≠ 0) (n := k) q9] at hl
          have hl : lv_has ls 8 [(5, .int (nI (nw_cnt (fun i => b i ≠ 0) (k + 1)))), (7, .int (nI (b k))), (6, .int (nI k)), (0, .ref hM), (1, .long x1), (3, .long x2)] := hl
          refine lv_iinc (v := nI (k + 1)) hx hb d_Mod_type_81 hl (k := 2) rfl (nI_add k 1) (by decide) rfl (fun ls hl => ?_)
          have hl : lv_has ls 8 [(6, .int (nI (k + 1))), (5, .int (nI (nw_cnt (fun i => b i ≠ 0) (k + 1)))), (7, .int (nI (b k))), (0, .ref hM), (1, .long x1), (3, .long x2)] := hl
          refine lv_goto hx hb d_Mod_type_84 (tgt := 11) (by decide) ?_
          exact ih1 (k + 1, t) (⟨by omega, by
            rcases ht with ⟨h1, h2⟩ | ⟨h1, i, h2, h3⟩
            · refine Or.inl ⟨h1, fun i hi => ?_⟩
              by_cases e : i = k
              · rw [e]; exact hgood
              · exact h2 i (by omega)
            · exact Or.inr ⟨h1, i, by omega, h3⟩⟩) (show 16 - (k + 1) < 16 - k by omega) _ _ _ (lv_sub hl [0, 1, 3, 4, 5] rfl) hP hD hS
      · rw [nw_eq0 (by omega)] at r1
        refine lv_iload hx hb d_Mod_type_54 (lv_at hl 0 rfl) ?_
        refine lv_bipush (v := nI 33) hx hb d_Mod_type_56 (by decide) ?_
        refine lv_icmp_lt hx hb d_Mod_type_58 (tgt := 68) (by decide) (fun r2 => ?_) (fun r2 => ?_)
        · rw [nI_ltI (by omega) (by omega)] at r2
          have hbadk : (b k ≠ 0 ∧ (b k < 33 ∨ 126 < b k)) := ⟨r1, Or.inl r2⟩
          refine lv_aload_n hx hb d_Mod_type_68 rfl (lv_at hl 3 rfl) ?_
          refine lv_iconst (v := nI 1) hx hb d_Mod_type_69 (by decide) ?_
          refine va_put (D := (dC, dI)) (ci := 1) (v := .int (nI 1)) (ty := .int) (C := R_Mod) (T := F_Mod) (N := 16) hx hb hts hin_Mod t_Mod t_Mod_ok n_Mod hown hK hP hD hS 0 rfl rfl 15 (by decide) (hts _ (nw_mc 187 rfl)) (fun _ h9 => h9) rfl (by decide +kernel) rfl rfl (Nat.le_of_ble_eq_true rfl) d_Mod_type_70 (fun H locs hP hD hS => ?_)
          replace hP : va_P (dC, dI) nw_cls [(hM, .inr (1, [.ref ai, .ref aw, .ref ar, .ref al, .ref aL, .ref aD, .ref ac, .ref af, .ref ap, .ref an, .ref ax, .int (nI isz), .int (nI wn), .int (nI chn), .int (nI rn), .int (nI 1)])), (ai, nw_ai cB 60 I)] H := hP
          replace hD : va_D A [(hM, .inr (1, [.ref ai, .ref aw, .ref ar, .ref al, .ref aL, .ref aD, .ref ac, .ref af, .ref ap, .ref an, .ref ax, .int (nI isz), .int (nI wn), .int (nI chn), .int (nI rn), .int (nI 1)])), (ai, nw_ai cB 60 I)] := hD
          refine lv_iload hx hb d_Mod_type_73 (lv_at hl 0 rfl) ?_
          refine lv_if_eq hx hb d_Mod_type_75 (tgt := 81) (by decide) (fun q9 => ?_) (fun q9 => ?_)
          · rw [nw_eq0 (by omega)] at q9
            rw [← nw_cnt_neg (f := fun i => b i ≠ 0) (n := k) (fun h => h q9)] at hl
            refine lv_iinc (v := nI (k + 1)) hx hb d_Mod_type_81 hl (k := 1) rfl (nI_add k 1) (by decide) rfl (fun ls hl => ?_)
            have hl : lv_has ls 8 [(6, .int (nI (k + 1))), (7, .int (nI (b k))), (5, .int (nI (nw_cnt (fun i => b i ≠ 0) (k + 1)))), (0, .ref hM), (1, .long x1), (3, .long x2)] := hl
            refine lv_goto hx hb d_Mod_type_84 (tgt := 11) (by decide) ?_
            exact ih1 (k + 1, 1) (⟨by omega, Or.inr ⟨rfl, k, by omega, hbadk⟩⟩) (show 16 - (k + 1) < 16 - k by omega) _ _ _ (lv_sub hl [0, 2, 3, 4, 5] rfl) hP hD hS
          · rw [nw_eq0 (by omega)] at q9
            refine lv_iinc (v := nI ((nw_cnt (fun i => b i ≠ 0) k) + 1)) hx hb d_Mod_type_78 hl (k := 2) rfl (nI_add (nw_cnt (fun i => b i ≠ 0) k) 1) (by decide) rfl (fun ls hl => ?_)
            have hl : lv_has ls 8 [(5, .int (nI ((nw_cnt (fun i => b i ≠ 0) k) + 1))), (7, .int (nI (b k))), (6, .int (nI k)), (0, .ref hM), (1, .long x1), (3, .long x2)] := hl
            rw [← nw_cnt_pos (f := fun i => b i ≠ 0) (n := k) q9] at hl
            have hl : lv_has ls 8 [(5, .int (nI (nw_cnt (fun i => b i ≠ 0) (k + 1)))), (7, .int (nI (b k))), (6, .int (nI k)), (0, .ref hM), (1, .long x1), (3, .long x2)] := hl
            refine lv_iinc (v := nI (k + 1)) hx hb d_Mod_type_81 hl (k := 2) rfl (nI_add k 1) (by decide) rfl (fun ls hl => ?_)
            have hl : lv_has ls 8 [(6, .int (nI (k + 1))), (5, .int (nI (nw_cnt (fun i => b i ≠ 0) (k + 1)))), (7, .int (nI (b k))), (0, .ref hM), (1, .long x1), (3, .long x2)] := hl
            refine lv_goto hx hb d_Mod_type_84 (tgt := 11) (by decide) ?_
            exact ih1 (k + 1, 1) (⟨by omega, Or.inr ⟨rfl, k, by omega, hbadk⟩⟩) (show 16 - (k + 1) < 16 - k by omega) _ _ _ (lv_sub hl [0, 1, 3, 4, 5] rfl) hP hD hS
        · rw [nI_ltI (by omega) (by omega)] at r2
          refine lv_iload hx hb d_Mod_type_61 (lv_at hl 0 rfl) ?_
          refine lv_bipush (v := nI 126) hx hb d_Mod_type_63 (by decide) ?_
          refine lv_icmp_le hx hb d_Mod_type_65 (tgt := 73) (by decide) (fun r3 => ?_) (fun r3 => ?_)
          · rw [nI_leI (by omega) (by omega)] at r3
            have hgood : ¬ (b k ≠ 0 ∧ (b k < 33 ∨ 126 < b k)) := fun h => by omega
            refine lv_iload hx hb d_Mod_type_73 (lv_at hl 0 rfl) ?_
            refine lv_if_eq hx hb d_Mod_type_75 (tgt := 81) (by decide) (fun q9 => ?_) (fun q9 => ?_)
            · rw [nw_eq0 (by omega)] at q9
              rw [← nw_cnt_neg (f := fun i => b i ≠ 0) (n := k) (fun h => h q9)] at hl
              refine lv_iinc (v := nI (k + 1)) hx hb d_Mod_type_81 hl (k := 1) rfl (nI_add k 1) (by decide) rfl (fun ls hl => ?_)
              have hl : lv_has ls 8 [(6, .int (nI (k + 1))), (7, .int (nI (b k))), (5, .int (nI (nw_cnt (fun i => b i ≠ 0) (k + 1)))), (0, .ref hM), (1, .long x1), (3, .long x2)] := hl
              refine lv_goto hx hb d_Mod_type_84 (tgt := 11) (by decide) ?_
              exact ih1 (k + 1, t) (⟨by omega, by
                rcases ht with ⟨h1, h2⟩ | ⟨h1, i, h2, h3⟩
                · refine Or.inl ⟨h1, fun i hi => ?_⟩
                  by_cases e : i = k
                  · rw [e]; exact hgood
                  · exact h2 i (by omega)
                · exact Or.inr ⟨h1, i, by omega, h3⟩⟩) (show 16 - (k + 1) < 16 - k by omega) _ _ _ (lv_sub hl [0, 2, 3, 4, 5] rfl) hP hD hS
            · rw [nw_eq0 (by omega)] at q9
              refine lv_iinc (v := nI ((nw_cnt (fun i => b i ≠ 0) k) + 1)) hx hb d_Mod_type_78 hl (k := 2) rfl (nI_add (nw_cnt (fun i => b i ≠ 0) k) 1) (by decide) rfl (fun ls hl => ?_)
              have hl : lv_has ls 8 [(5, .int (nI ((nw_cnt (fun i => b i ≠ 0) k) + 1))), (7, .int (nI (b k))), (6, .int (nI k)), (0, .ref hM), (1, .long x1), (3, .long x2)] := hl
              rw [← nw_cnt_pos (f := fun i => b i ≠ 0) (n := k) q9] at hl
              have hl : lv_has ls 8 [(5, .int (nI (nw_cnt (fun i => b i ≠ 0) (k + 1)))), (7, .int (nI (b k))), (6, .int (nI k)), (0, .ref hM), (1, .long x1), (3, .long x2)] := hl
              refine lv_iinc (v := nI (k + 1)) hx hb d_Mod_type_81 hl (k := 2) rfl (nI_add k 1) (by decide) rfl (fun ls hl => ?_)
              have hl : lv_has ls 8 [(6, .int (nI (k + 1))), (5, .int (nI (nw_cnt (fun i => b i ≠ 0) (k + 1)))), (7, .int (nI (b k))), (0, .ref hM), (1, .long x1), (3, .long x2)] := hl
              refine lv_goto hx hb d_Mod_type_84 (tgt := 11) (by decide) ?_
              exact ih1 (k + 1, t) (⟨by omega, by
                rcases ht with ⟨h1, h2⟩ | ⟨h1, i, h2, h3⟩
                · refine Or.inl ⟨h1, fun i hi => ?_⟩
                  by_cases e : i = k
                  · rw [e]; exact hgood
                  · exact h2 i (by omega)
                · exact Or.inr ⟨h1, i, by omega, h3⟩⟩) (show 16 - (k + 1) < 16 - k by omega) _ _ _ (lv_sub hl [0, 1, 3, 4, 5] rfl) hP hD hS
          · rw [nI_leI (by omega) (by omega)] at r3
            have hbadk : (b k ≠ 0 ∧ (b k < 33 ∨ 126 < b k)) := ⟨r1, Or.inr (by omega)⟩
            refine lv_aload_n hx hb d_Mod_type_68 rfl (lv_at hl 3 rfl) ?_
            refine lv_iconst (v := nI 1) hx hb d_Mod_type_69 (by decide) ?_
            refine va_put (D := (dC, dI)) (ci := 1) (v := .int (nI 1)) (ty := .int) (C := R_Mod) (T := F_Mod) (N := 16) hx hb hts hin_Mod t_Mod t_Mod_ok n_Mod hown hK hP hD hS 0 rfl rfl 15 (by decide) (hts _ (nw_mc 187 rfl)) (fun _ h9 => h9) rfl (by decide +kernel) rfl rfl (Nat.le_of_ble_eq_true rfl) d_Mod_type_70 (fun H locs hP hD hS => ?_)
            replace hP : va_P (dC, dI) nw_cls [(hM, .inr (1, [.ref ai, .ref aw, .ref ar, .ref al, .ref aL, .ref aD, .ref ac, .ref af, .ref ap, .ref an, .ref ax, .int (nI isz), .int (nI wn), .int (nI chn), .int (nI rn), .int (nI 1)])), (ai, nw_ai cB 60 I)] H := hP
            replace hD : va_D A [(hM, .inr (1, [.ref ai, .ref aw, .ref ar, .ref al, .ref aL, .ref aD, .ref ac, .ref af, .ref ap, .ref an, .ref ax, .int (nI isz), .int (nI wn), .int (nI chn), .int (nI rn), .int (nI 1)])), (ai, nw_ai cB 60 I)] := hD
            refine lv_iload hx hb d_Mod_type_73 (lv_at hl 0 rfl) ?_
            refine lv_if_eq hx hb d_Mod_type_75 (tgt := 81) (by decide) (fun q9 => ?_) (fun q9 => ?_)
            · rw [nw_eq0 (by omega)] at q9
              rw [← nw_cnt_neg (f := fun i => b i ≠ 0) (n := k) (fun h => h q9)] at hl
              refine lv_iinc (v := nI (k + 1)) hx hb d_Mod_type_81 hl (k := 1) rfl (nI_add k 1) (by decide) rfl (fun ls hl => ?_)
              have hl : lv_has ls 8 [(6, .int (nI (k + 1))), (7, .int (nI (b k))), (5, .int (nI (nw_cnt (fun i => b i ≠ 0) (k + 1)))), (0, .ref hM), (1, .long x1), (3, .long x2)] := hl
              refine lv_goto hx hb d_Mod_type_84 (tgt := 11) (by decide) ?_
              exact ih1 (k + 1, 1) (⟨by omega, Or.inr ⟨rfl, k, by omega, hbadk⟩⟩) (show 16 - (k + 1) < 16 - k by omega) _ _ _ (lv_sub hl [0, 2, 3, 4, 5] rfl) hP hD hS
            · rw [nw_eq0 (by omega)] at q9
              refine lv_iinc (v := nI ((nw_cnt (fun i => b i ≠ 0) k) + 1)) hx hb d_Mod_type_78 hl (k := 2) rfl (nI_add (nw_cnt (fun i => b i ≠ 0) k) 1) (by decide) rfl (fun ls hl => ?_)
              have hl : lv_has ls 8 [(5, .int (nI ((nw_cnt (fun i => b i ≠ 0) k) + 1))), (7, .int (nI (b k))), (6, .int (nI k)), (0, .ref hM), (1, .long x1), (3, .long x2)] := hl
              rw [← nw_cnt_pos (f := fun i => b i ≠ 0) (n := k) q9] at hl
              have hl : lv_has ls 8 [(5, .int (nI (nw_cnt (fun i => b i ≠ 0) (k + 1)))), (7, .int (nI (b k))), (6, .int (nI k)), (0, .ref hM), (1, .long x1), (3, .long x2)] := hl
              refine lv_iinc (v := nI (k + 1)) hx hb d_Mod_type_81 hl (k := 2) rfl (nI_add k 1) (by decide) rfl (fun ls hl => ?_)
              have hl : lv_has ls 8 [(6, .int (nI (k + 1))), (5, .int (nI (nw_cnt (fun i => b i ≠ 0) (k + 1)))), (7, .int (nI (b k))), (0, .ref hM), (1, .long x1), (3, .long x2)] := hl
              refine lv_goto hx hb d_Mod_type_84 (tgt := 11) (by decide) ?_
              exact ih1 (k + 1, 1) (⟨by omega, Or.inr ⟨rfl, k, by omega, hbadk⟩⟩) (show 16 - (k + 1) < 16 - k by omega) _ _ _ (lv_sub hl [0, 1, 3, 4, 5] rfl) hP hD hS
