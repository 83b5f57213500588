set_option maxHeartbeats 4000000 in
set_option maxRecDepth 100000 in
theorem c_NW_take (l : Launch) (dC : Nat → ClassId) (dI : Nat → Nat → Nat) (sz : Nat) (oN oI oT oW oR oP oM oE : Nat) (aI ni aT nt : Nat) : Met l y_NW_takeInput w_NW_takeInput ({ frames := 1, cells := 0, slots := 0, locals := 20 }) (nw_Pw [.ref oN] (dC, dI) nw_cls [] [(oN, .inr (0, [.ref oI, .ref oT, .ref oW, .ref oR, .ref oP, .ref oM, .ref oE])), (oI, .inr (6, [.ref aI, .int (nI ni)])), (oT, .inr (6, [.ref aT, .int (nI nt)]))] sz) (va_Qr (fun _ : Unit => True) (nw_Br (dC, dI) nw_cls (va_A [(oN, .inr (0, [.ref oI, .ref oT, .ref oW, .ref oR, .ref oP, .ref oM, .ref oE])), (oI, .inr (6, [.ref aI, .int (nI ni)])), (oT, .inr (6, [.ref aT, .int (nI nt)]))] sz) (fun _ : Unit => [(oN, .inr (0, [.ref oT, .ref oI, .ref oW, .ref oR, .ref oP, .ref oM, .ref oE])), (oI, .inr (6, [.ref aI, .int (nI ni)])), (oT, .inr (6, [.ref aT, .int (nI 0)]))]) (fun _ => oI)) (va_A [(oN, .inr (0, [.ref oI, .ref oT, .ref oW, .ref oR, .ref oP, .ref oM, .ref oE])), (oI, .inr (6, [.ref aI, .int (nI ni)])), (oT, .inr (6, [.ref aT, .int (nI nt)]))] sz)) 0 0 (va_A [(oN, .inr (0, [.ref oI, .ref oT, .ref oW, .ref oR, .ref oP, .ref oM, .ref oE])), (oI, .inr (6, [.ref aI, .int (nI ni)])), (oT, .inr (6, [.ref aT, .int (nI nt)]))] sz) := by
  refine Met.ofW (cc := b_NW_takeInput) (maxL := 2) (ret := (some (.object "NearWords$Row"))) (by decide) rfl ?_
  intro p e s m args below meth cd s₁ B hml hv0
  obtain ⟨rfl, hsz, hP, hK, hD0⟩ := hv0
  have hx := B.exec
  have hb := B.bytes
  have hr := B.returns
  have hts := atoms_spec (ws := w_NW_takeInput) B.pre
  have hown : s.vm.findClass R_NW = some m.cls := findClass_of_methodNamed B.named
  have hlocks := B.notSynchronized
  subst hsz
  have hD := hD0.self (sz := s.heap.size)
  generalize hAe : va_A [(oN, .inr (0, [.ref oI, .ref oT, .ref oW, .ref oR, .ref oP, .ref oM, .ref oE])), (oI, .inr (6, [.ref aI, .int (nI ni)])), (oT, .inr (6, [.ref aT, .int (nI nt)]))] s.heap.size = A at hD ⊢
  have hA : ∀ q : Nat, s.heap.size ≤ q → A q := fun q h => by rw [← hAe]; exact Or.inr h
  have hS : va_S A s.heap s.heap [] := va_S.rf
  have hl := lv_entry ([.ref oN]) (n := 2) (Nat.le_of_ble_eq_true rfl)
  rw [lg_entry_eq]
  generalize (lg_sl ([.ref oN]) ++ List.replicate (2 - (lg_sl ([.ref oN])).length) Slot.unset).toArray = ls at hl ⊢
  have hl : lv_has ls 2 [(0, .ref oN)] := hl
  refine lv_aload_n hx hb d_NW_takeInput_0 rfl (lv_at hl 0 rfl) ?_
  refine va_get (D := (dC, dI)) (ci := 0) (v := .ref oI) (C := R_NW) (T := F_NW) (N := 7) hx hb hts hin_NW hown hK hP 0 rfl rfl 0 (by decide) (hts _ (nw_mc 8 rfl)) (fun _ h9 => h9) rfl d_NW_takeInput_1 ?_
  refine lv_astore_n hx hb d_NW_takeInput_4 rfl hl (by decide) rfl (fun ls hl => ?_)
  replace hl : lv_has ls 2 [(1, .ref oI), (0, .ref oN)] := hl
  refine lv_aload_n hx hb d_NW_takeInput_5 rfl (lv_at hl 1 rfl) ?_
  refine lv_aload_n hx hb d_NW_takeInput_6 rfl (lv_at hl 1 rfl) ?_
  refine va_get (D := (dC, dI)) (ci := 0) (v := .ref oT) (C := R_NW) (T := F_NW) (N := 7) hx hb hts hin_NW hown hK hP 0 rfl rfl 1 (by decide) (hts _ (nw_mc 9 rfl)) (fun _ h9 => h9) rfl d_NW_takeInput_7 ?_
  refine va_put (D := (dC, dI)) (ci := 0) (v := .ref oT) (ty := (.object "NearWords$Row")) (C := R_NW) (T := F_NW) (N := 7) hx hb hts hin_NW t_NW t_NW_ok n_NW hown hK hP hD hS 0 rfl rfl 0 (by decide) (hts _ (nw_mc 8 rfl)) (fun _ h9 => h9) rfl (by decide +kernel) rfl rfl (Nat.le_of_ble_eq_true rfl) d_NW_takeInput_10 (fun H locs hP hD hS => ?_)
  replace hP : va_P (dC, dI) nw_cls [(oN, .inr (0, [.ref oT, .ref oT, .ref oW, .ref oR, .ref oP, .ref oM, .ref oE])), (oI, .inr (6, [.ref aI, .int (nI ni)])), (oT, .inr (6, [.ref aT, .int (nI nt)]))] H := hP
  replace hD : va_D A [(oN, .inr (0, [.ref oT, .ref oT, .ref oW, .ref oR, .ref oP, .ref oM, .ref oE])), (oI, .inr (6, [.ref aI, .int (nI ni)])), (oT, .inr (6, [.ref aT, .int (nI nt)]))] := hD
  refine lv_aload_n hx hb d_NW_takeInput_13 rfl (lv_at hl 1 rfl) ?_
  refine lv_aload_n hx hb d_NW_takeInput_14 rfl (lv_at hl 0 rfl) ?_
  refine va_put (D := (dC, dI)) (ci := 0) (v := .ref oI) (ty := (.object "NearWords$Row")) (C := R_NW) (T := F_NW) (N := 7) hx hb hts hin_NW t_NW t_NW_ok n_NW hown hK hP hD hS 0 rfl rfl 1 (by decide) (hts _ (nw_mc 9 rfl)) (fun _ h9 => h9) rfl (by decide +kernel) rfl rfl (Nat.le_of_ble_eq_true rfl) d_NW_takeInput_15 (fun H locs hP hD hS => ?_)
  replace hP : va_P (dC, dI) nw_cls [(oN, .inr (0, [.ref oT, .ref oI, .ref oW, .ref oR, .ref oP, .ref oM, .ref oE])), (oI, .inr (6, [.ref aI, .int (nI ni)])), (oT, .inr (6, [.ref aT, .int (nI nt)]))] H := hP
  replace hD : va_D A [(oN, .inr (0, [.ref oT, .ref oI, .ref oW, .ref oR, .ref oP, .ref oM, .ref oE])), (oI, .inr (6, [.ref aI, .int (nI ni)])), (oT, .inr (6, [.ref aT, .int (nI nt)]))] := hD
  refine lv_aload_n hx hb d_NW_takeInput_18 rfl (lv_at hl 1 rfl) ?_
  refine va_get (D := (dC, dI)) (ci := 0) (v := .ref oT) (C := R_NW) (T := F_NW) (N := 7) hx hb hts hin_NW hown hK hP 0 rfl rfl 0 (by decide) (hts _ (nw_mc 8 rfl)) (fun _ h9 => h9) rfl d_NW_takeInput_19 ?_
  refine nw_callv (wc := [(oT, .inr (6, [.ref aT, .int (nI nt)]))]) (wr := [(oN, .inr (0, [.ref oT, .ref oI, .ref oW, .ref oR, .ref oP, .ref oM, .ref oE])), (oI, .inr (6, [.ref aI, .int (nI ni)]))]) hP hD hS hA [2] [0, 1] rfl rfl (by decide) (by decide) (va_runV (As := []) (rest := []) ⟨hx, hb, hml, hown, hts⟩ (c_Row_clear l dC dI _ oT aT nt) (cwV (C := R_Row) 0 hts (nw_GV (nw_m 160 rfl) (nw_m 161 rfl) (nw_m 162 rfl) (nw_m 5 rfl) (nw_m 163 rfl)) rfl rfl rfl (by decide +kernel) ⟨Nat.le_of_ble_eq_true rfl, Nat.le_of_ble_eq_true rfl⟩) (nw_prewV (q0 := 2) (ci := 6) (q := (R_Row, F_Row, 2)) hK hP hD [2] [] (by decide) rfl rfl rfl rfl) rfl rfl hl.1 rfl (lv_room (Nat.le_of_ble_eq_true rfl)) d_NW_takeInput_22 ⟨Nat.le_of_ble_eq_true rfl, Nat.le_of_ble_eq_true rfl⟩) (fun _ H locs hw hP hD hS => ?_)
  replace hP : va_P (dC, dI) nw_cls [(oN, .inr (0, [.ref oT, .ref oI, .ref oW, .ref oR, .ref oP, .ref oM, .ref oE])), (oI, .inr (6, [.ref aI, .int (nI ni)])), (oT, .inr (6, [.ref aT, .int (nI 0)]))] H := hP
  replace hD : va_D A [(oN, .inr (0, [.ref oT, .ref oI, .ref oW, .ref oR, .ref oP, .ref oM, .ref oE])), (oI, .inr (6, [.ref aI, .int (nI ni)])), (oT, .inr (6, [.ref aT, .int (nI 0)]))] := hD
  refine lv_aload_n hx hb d_NW_takeInput_25 rfl (lv_at hl 0 rfl) ?_
  exact W.aret hx hb hr (Or.inl ⟨_, rfl⟩) (Or.inr ⟨_, rfl⟩) (fun t ht hW => ⟨⟨(), _, rfl, trivial, rfl, by rw [ht]; exact hP, hD⟩, hS.F ht⟩) hS.2.2 d_NW_takeInput_26

set_option maxHeartbeats 4000000 in
set_option maxRecDepth 100000 in
theorem c_NW_byteOf (l : Launch) (dC : Nat → ClassId) (dI : Nat → Nat → Nat) (q : Int64) (sh : Nat) (hsh : sh < 64) : Met l y_NW_byteOf w_NW_byteOf ({ frames := 0, cells := 0, slots := 0, locals := 0 }) (nw_Pr [.long q, .int (nI sh)] (dC, dI) nw_cls [] []) (vp_Si (fun r => r = nI (nw_by q sh))) 0 0 (fun _ => False) := by
  refine Met.ofW (cc := b_NW_byteOf) (maxL := 3) (ret := (some .int)) (by decide) rfl ?_
  intro p e s m args below meth cd s₁ B hml hv0
  obtain ⟨rfl, hP, hK⟩ := hv0
  have hx := B.exec
  have hb := B.bytes
  have hr := B.returns
  have hts := atoms_spec (ws := w_NW_byteOf) B.pre
  have hown : s.vm.findClass R_NW = some m.cls := findClass_of_methodNamed B.named
  have hlocks := B.notSynchronized
  have hl := lv_entry ([.long q, .int (nI sh)]) (n := 3) (Nat.le_of_ble_eq_true rfl)
  rw [lg_entry_eq]
  generalize (lg_sl ([.long q, .int (nI sh)]) ++ List.replicate (3 - (lg_sl ([.long q, .int (nI sh)])).length) Slot.unset).toArray = ls at hl ⊢
  have hl : lv_has ls 3 [(0, .long q), (2, .int (nI sh))] := hl
  refine lv_lload_n hx hb d_NW_byteOf_0 rfl (lv_at hl 0 rfl) ?_
  refine lv_iload_n hx hb d_NW_byteOf_1 rfl (lv_at hl 1 rfl) ?_
  refine lv_lushr (v := (q.toUInt64 >>> ((nI sh).toInt64.toUInt64 &&& Int64.toUInt64 63)).toInt64) hx hb d_NW_byteOf_2 (rfl) ?_
  refine lv_l2i (v := (q.toUInt64 >>> ((nI sh).toInt64.toUInt64 &&& Int64.toUInt64 63)).toInt64.toInt32) hx hb d_NW_byteOf_3 (rfl) ?_
  refine lv_sipush (v := nI 255) hx hb d_NW_byteOf_4 (by decide) ?_
  refine lv_iand hx hb d_NW_byteOf_7 ?_
  refine nw_ti (y := nI (nw_by q sh)) (nw_byte q hsh) ?_
  exact W.iret (v := nI (nw_by q sh)) hx hb hr (fun t ht hW => ⟨_, rfl, rfl, ht⟩) (fun q hq => by cases hq) d_NW_byteOf_8

set_option maxHeartbeats 4000000 in
set_option maxRecDepth 100000 in
theorem c_NW_isT_y (l : Launch) (dC : Nat → ClassId) (dI : Nat → Nat → Nat) (q : Int64) (hyes : ∀ k, k < 8 → ¬ nw_bad (nw_bk q k)) : Met l y_NW_isTypable w_NW_isTypable ({ frames := 1, cells := 0, slots := 0, locals := 22 }) (nw_Pr [.long q] (dC, dI) nw_cls [] []) (vp_Si (fun r => r = nI 1)) 0 0 (fun _ => False) := by
  refine Met.ofW (cc := b_NW_isTypable) (maxL := 4) (ret := (some .boolean)) (by decide) rfl ?_
  intro p e s m args below meth cd s₁ B hml hv0
  obtain ⟨rfl, hP, hK⟩ := hv0
  have hx := B.exec
  have hb := B.bytes
  have hr := B.returns
  have hts := atoms_spec (ws := w_NW_isTypable) B.pre
  have hown : s.vm.findClass R_NW = some m.cls := findClass_of_methodNamed B.named
  have hlocks := B.notSynchronized
  have hl := lv_entry ([.long q]) (n := 4) (Nat.le_of_ble_eq_true rfl)
  rw [lg_entry_eq]
  generalize (lg_sl ([.long q]) ++ List.replicate (4 - (lg_sl ([.long q])).length) Slot.unset).toArray = ls at hl ⊢
  have hl : lv_has ls 4 [(0, .long q)] := hl
  refine lv_bipush (v := nI 56) hx hb d_NW_isTypable_0 (by decide) ?_
  refine nw_ti (y := nI (64 - 8 * 0) - nI 8) (by decide) ?_
  refine lv_istore_n hx hb d_NW_isTypable_2 rfl hl (by decide) rfl (fun ls hl => ?_)
  replace hl : lv_has ls 4 [(2, .int (nI (64 - 8 * 0) - nI 8)), (0, .long q)] := hl
  refine nw_loopR (σ := Nat) (fun k => k ≤ 8 ∧ ∀ j, j < k → ¬ nw_bad (nw_bk q j)) (fun k => [(2, .int (nI (64 - 8 * k) - nI 8)), (0, .long q)]) (fun k => 8 - k) (fun x hI ih ls hl => ?_) 0 (⟨Nat.zero_le _, fun j hj => absurd hj (Nat.not_lt_zero j)⟩) hl
  obtain ⟨k, hx9⟩ : ∃ z, z = x := ⟨x, rfl⟩
  subst hx9
  replace hI : k ≤ 8 ∧ ∀ j, j < k → ¬ nw_bad (nw_bk q j) := hI
  replace hl : lv_has ls 4 [(2, .int (nI (64 - 8 * k) - nI 8)), (0, .long q)] := hl
  obtain ⟨hk, hg⟩ := hI
  have hbk := nw_bk_lt q k
  refine lv_iload_n hx hb d_NW_isTypable_3 rfl (lv_at hl 0 rfl) ?_
  refine lv_if_lt hx hb d_NW_isTypable_4 (tgt := 37) (by decide) (fun g1 => ?_) (fun g1 => ?_)
  · rw [nw_s8 hk] at g1
    refine lv_iconst (v := nI 1) hx hb d_NW_isTypable_37 (by decide) ?_
    exact W.zret (v := nI 1) hx hb hr rfl (fun t ht hW => ⟨_, rfl, rfl, ht⟩) (fun q hq => by cases hq) d_NW_isTypable_38
  · rw [nw_s8 hk] at g1
    have hk8 : k < 8 := by omega
    rw [nw_s8n hk8] at hl
    have hl : lv_has ls 4 [(2, .int (nI (56 - 8 * k))), (0, .long q)] := hl
    refine lv_lload_n hx hb d_NW_isTypable_7 rfl (lv_at hl 1 rfl) ?_
    refine lv_iload_n hx hb d_NW_isTypable_8 rfl (lv_at hl 0 rfl) ?_
    refine vp_callSi (va_Run.run (va_runS (As := [.long q, .int (nI (56 - 8 * k))]) (rest := []) ⟨hx, hb, hml, hown, hts⟩ (c_NW_byteOf l dC dI q (56 - 8 * k) (by omega)) (cwS 2 hts (nw_GS (nw_m 164 rfl) (nw_m 165 rfl) (nw_m 43 rfl) (nw_m 166 rfl)) rfl rfl rfl (by decide +kernel) ⟨Nat.le_of_ble_eq_true rfl, Nat.le_of_ble_eq_true rfl⟩) (nw_preS hK hP [] [] rfl rfl) rfl rfl hl.1 rfl (lv_room (Nat.le_of_ble_eq_true rfl)) d_NW_isTypable_9 ⟨Nat.le_of_ble_eq_true rfl, Nat.le_of_ble_eq_true rfl⟩)) (fun r her => ?_)
    subst her
    refine nw_ti (y := nI (nw_bk q k)) (rfl) ?_
    refine lv_istore_n hx hb d_NW_isTypable_12 rfl hl (by decide) rfl (fun ls hl => ?_)
    replace hl : lv_has ls 4 [(3, .int (nI (nw_bk q k))), (2, .int (nI (56 - 8 * k))), (0, .long q)] := hl
    refine lv_iload_n hx hb d_NW_isTypable_13 rfl (lv_at hl 0 rfl) ?_
    refine lv_if_eq hx hb d_NW_isTypable_14 (tgt := 31) (by decide) (fun r1 => ?_) (fun r1 => ?_)
    · rw [nw_eq0 (by omega)] at r1
      have hgk : ¬ nw_bad (nw_bk q k) := fun h => h.1 r1
      refine lv_iinc (v := nI (64 - 8 * (k + 1)) - nI 8) hx hb d_NW_isTypable_31 hl (k := 1) rfl (nw_s8d hk8) (by decide) rfl (fun ls hl => ?_)
      have hl : lv_has ls 4 [(2, .int (nI (64 - 8 * (k + 1)) - nI 8)), (3, .int (nI (nw_bk q k))), (0, .long q)] := hl
      refine lv_goto hx hb d_NW_isTypable_34 (tgt := 3) (by decide) ?_
      exact ih (k + 1) (⟨by omega, fun j hj => by
        by_cases e : j = k
        · rw [e]; exact hgk
        · exact hg j (by omega)⟩) (show 8 - (k + 1) < 8 - k by omega) _ (lv_sub hl [0, 2] rfl)
    · rw [nw_eq0 (by omega)] at r1
      refine lv_iload_n hx hb d_NW_isTypable_17 rfl (lv_at hl 0 rfl) ?_
      refine lv_bipush (v := nI 33) hx hb d_NW_isTypable_18 (by decide) ?_
      refine lv_icmp_lt hx hb d_NW_isTypable_20 (tgt := 29) (by decide) (fun r2 => ?_) (fun r2 => ?_)
      · rw [nI_ltI (by omega) (by omega)] at r2
        have hbadk : nw_bad (nw_bk q k) := ⟨r1, Or.inl r2⟩
        exact absurd hbadk (hyes k hk8)
      · rw [nI_ltI (by omega) (by omega)] at r2
        refine lv_iload_n hx hb d_NW_isTypable_23 rfl (lv_at hl 0 rfl) ?_
        refine lv_bipush (v := nI 126) hx hb d_NW_isTypable_24 (by decide) ?_
        refine lv_icmp_le hx hb d_NW_isTypable_26 (tgt := 31) (by decide) (fun r3 => ?_) (fun r3 => ?_)
        · rw [nI_leI (by omega) (by omega)] at r3
          have hgk : ¬ nw_bad (nw_bk q k) := fun h => h.2.elim (fun z => r2 z) (fun z => by omega)
          refine lv_iinc (v := nI (64 - 8 * (k + 1)) - nI 8) hx hb d_NW_isTypable_31 hl (k := 1) rfl (nw_s8d hk8) (by decide) rfl (fun ls hl => ?_)
          have hl : lv_has ls 4 [(2, .int (nI (64 - 8 * (k + 1)) - nI 8)), (3, .int (nI (nw_bk q k))), (0, .long q)] := hl
          refine lv_goto hx hb d_NW_isTypable_34 (tgt := 3) (by decide) ?_
          exact ih (k + 1) (⟨by omega, fun j hj => by
            by_cases e : j = k
            · rw [e]; exact hgk
            · exact hg j (by omega)⟩) (show 8 - (k + 1) < 8 - k by omega) _ (lv_sub hl [0, 2] rfl)
        · rw [nI_leI (by omega) (by omega)] at r3
          have hbadk : nw_bad (nw_bk q k) := ⟨r1, Or.inr (by omega)⟩
          exact absurd hbadk (hyes k hk8)

set_option maxHeartbeats 4000000 in
set_option maxRecDepth 100000 in
theorem c_NW_isT_n (l : Launch) (dC : Nat → ClassId) (dI : Nat → Nat → Nat) (q : Int64) (hno : ∃ k, k < 8 ∧ nw_bad (nw_bk q k)) : Met l y_NW_isTypable w_NW_isTypable ({ frames := 1, cells := 0, slots := 0, locals := 22 }) (nw_Pr [.long q] (dC, dI) nw_cls [] []) (vp_Si (fun r => r = nI 0)) 0 0 (fun _ => False) := by
  refine Met.ofW (cc := b_NW_isTypable) (maxL := 4) (ret := (some .boolean)) (by decide) rfl ?_
  intro p e s m args below meth cd s₁ B hml hv0
  obtain ⟨rfl, hP, hK⟩ := hv0
  have hx := B.exec
  have hb := B.bytes
  have hr := B.returns
  have hts := atoms_spec (ws := w_NW_isTypable) B.pre
  have hown : s.vm.findClass R_NW = some m.cls := findClass_of_methodNamed B.named
  have hlocks := B.notSynchronized
  have hl := lv_entry ([.long q]) (n := 4) (Nat.le_of_ble_eq_true rfl)
  rw [lg_entry_eq]
  generalize (lg_sl ([.long q]) ++ List.replicate (4 - (lg_sl ([.long q])).length) Slot.unset).toArray = ls at hl ⊢
  have hl : lv_has ls 4 [(0, .long q)] := hl
  refine lv_bipush (v := nI 56) hx hb d_NW_isTypable_0 (by decide) ?_
  refine nw_ti (y := nI (64 - 8 * 0) - nI 8) (by decide) ?_
  refine lv_istore_n hx hb d_NW_isTypable_2 rfl hl (by decide) rfl (fun ls hl => ?_)
  replace hl : lv_has ls 4 [(2, .int (nI (64 - 8 * 0) - nI 8)), (0, .long q)] := hl
  refine nw_loopR (σ := Nat) (fun k => k ≤ 8 ∧ ∀ j, j < k → ¬ nw_bad (nw_bk q j)) (fun k => [(2, .int (nI (64 - 8 * k) - nI 8)), (0, .long q)]) (fun k => 8 - k) (fun x hI ih ls hl => ?_) 0 (⟨Nat.zero_le _, fun j hj => absurd hj (Nat.not_lt_zero j)⟩) hl
  obtain ⟨k, hx9⟩ : ∃ z, z = x := ⟨x, rfl⟩
  subst hx9
  replace hI : k ≤ 8 ∧ ∀ j, j < k → ¬ nw_bad (nw_bk q j) := hI
  replace hl : lv_has ls 4 [(2, .int (nI (64 - 8 * k) - nI 8)), (0, .long q)] := hl
  obtain ⟨hk, hg⟩ := hI
  have hbk := nw_bk_lt q k
  refine lv_iload_n hx hb d_NW_isTypable_3 rfl (lv_at hl 0 rfl) ?_
  refine lv_if_lt hx hb d_NW_isTypable_4 (tgt := 37) (by decide) (fun g1 => ?_) (fun g1 => ?_)
  · rw [nw_s8 hk] at g1
    exact absurd hno (fun ⟨j, h1, h2⟩ => hg j (by omega) h2)
  · rw [nw_s8 hk] at g1
    have hk8 : k < 8 := by omega
    rw [nw_s8n hk8] at hl
    have hl : lv_has ls 4 [(2, .int (nI (56 - 8 * k))), (0, .long q)] := hl
    refine lv_lload_n hx hb d_NW_isTypable_7 rfl (lv_at hl 1 rfl) ?_
    refine lv_iload_n hx hb d_NW_isTypable_8 rfl (lv_at hl 0 rfl) ?_
    refine vp_callSi (va_Run.run (va_runS (As := [.long q, .int (nI (56 - 8 * k))]) (rest := []) ⟨hx, hb, hml, hown, hts⟩ (c_NW_byteOf l dC dI q (56 - 8 * k) (by omega)) (cwS 2 hts (nw_GS (nw_m 164 rfl) (nw_m 165 rfl) (nw_m 43 rfl) (nw_m 166 rfl)) rfl rfl rfl (by decide +kernel) ⟨Nat.le_of_ble_eq_true rfl, Nat.le_of_ble_eq_true rfl⟩) (nw_preS hK hP [] [] rfl rfl) rfl rfl hl.1 rfl (lv_room (Nat.le_of_ble_eq_true rfl)) d_NW_isTypable_9 ⟨Nat.le_of_ble_eq_true rfl, Nat.le_of_ble_eq_true rfl⟩)) (fun r her => ?_)
    subst her
    refine nw_ti (y := nI (nw_bk q k)) (rfl) ?_
    refine lv_istore_n hx hb d_NW_isTypable_12 rfl hl (by decide) rfl (fun ls hl => ?_)
    replace hl : lv_has ls 4 [(3, .int (nI (nw_bk q k))), (2, .int (nI (56 - 8 * k))), (0, .long q)] := hl
    refine lv_iload_n hx hb d_NW_isTypable_13 rfl (lv_at hl 0 rfl) ?_
    refine lv_if_eq hx hb d_NW_isTypable_14 (tgt := 31) (by decide) (fun r1 => ?_) (fun r1 => ?_)
    · rw [nw_eq0 (by omega)] at r1
      have hgk : ¬ nw_bad (nw_bk q k) := fun h => h.1 r1
      refine lv_iinc (v := nI (64 - 8 * (k + 1)) - nI 8) hx hb d_NW_isTypable_31 hl (k := 1) rfl (nw_s8d hk8) (by decide) rfl (fun ls hl => ?_)
      have hl : lv_has ls 4 [(2, .int (nI (64 - 8 * (k + 1)) - nI 8)), (3, .int (nI (nw_bk q k))), (0, .long q)] := hl
      refine lv_goto hx hb d_NW_isTypable_34 (tgt := 3) (by decide) ?_
      exact ih (k + 1) (⟨by omega, fun j hj => by
        by_cases e : j = k
        · rw [e]; exact hgk
        · exact hg j (by omega)⟩) (show 8 - (k + 1) < 8 - k by omega) _ (lv_sub hl [0, 2] rfl)
    · rw [nw_eq0 (by omega)] at r1
      refine lv_iload_n hx hb d_NW_isTypable_17 rfl (lv_at hl 0 rfl) ?_
      refine lv_bipush (v := nI 33) hx hb d_NW_isTypable_18 (by decide) ?_
      refine lv_icmp_lt hx hb d_NW_isTypable_20 (tgt := 29) (by decide) (fun r2 => ?_) (fun r2 => ?_)
      · rw [nI_ltI (by omega) (by omega)] at r2
        have hbadk : nw_bad (nw_bk q k) := ⟨r1, Or.inl r2⟩
        refine lv_iconst (v := nI 0) hx hb d_NW_isTypable_29 (by decide) ?_
        exact W.zret (v := nI 0) hx hb hr rfl (fun t ht hW => ⟨_, rfl, rfl, ht⟩) (fun q hq => by cases hq) d_NW_isTypable_30
      · rw [nI_ltI (by omega) (by omega)] at r2
        refine lv_iload_n hx hb d_NW_isTypable_23 rfl (lv_at hl 0 rfl) ?_
        refine lv_bipush (v := nI 126) hx hb d_NW_isTypable_24 (by decide) ?_
        refine lv_icmp_le hx hb d_NW_isTypable_26 (tgt := 31) (by decide) (fun r3 => ?_) (fun r3 => ?_)
        · rw [nI_leI (by omega) (by omega)] at r3
          have hgk : ¬ nw_bad (nw_bk q k) := fun h => h.2.elim (fun z => r2 z) (fun z => by omega)
          refine lv_iinc (v := nI (64 - 8 * (k + 1)) - nI 8) hx hb d_NW_isTypable_31 hl (k := 1) rfl (nw_s8d hk8) (by decide) rfl (fun ls hl => ?_)
          have hl : lv_has ls 4 [(2, .int (nI (64 - 8 * (k + 1)) - nI 8)), (3, .int (nI (nw_bk q k))), (0, .long q)] := hl
          refine lv_goto hx hb d_NW_isTypable_34 (tgt := 3) (by decide) ?_
          exact ih (k + 1) (⟨by omega, fun j hj => by
            by_cases e : j = k
            · rw [e]; exact hgk
            · exact hg j (by omega)⟩) (show 8 - (k + 1) < 8 - k by omega) _ (lv_sub hl [0, 2] rfl)
        · rw [nI_leI (by omega) (by omega)] at r3
          have hbadk : nw_bad (nw_bk q k) := ⟨r1, Or.inr (by omega)⟩
          refine lv_iconst (v := nI 0) hx hb d_NW_isTypable_29 (by decide) ?_
          exact W.zret (v := nI 0) hx hb hr rfl (fun t ht hW => ⟨_, rfl, rfl, ht⟩) (fun q hq => by cases hq) d_NW_isTypable_30

set_option maxHeartbeats 4000000 in
set_option maxRecDepth 100000 in
theorem c_NW_bytesIn (l : Launch) (dC : Nat → ClassId) (dI : Nat → Nat → Nat) (q : Int64) : Met l y_NW_bytesIn w_NW_bytesIn ({ frames := 1, cells := 0, slots := 0, locals := 22 }) (nw_Pr [.long q] (dC, dI) nw_cls [] []) (vp_Si (fun r => r = nI (nw_cnt (fun j => nw_bk q j ≠ 0) 8))) 0 0 (fun _ => False) := by
  refine Met.ofW (cc := b_NW_bytesIn) (maxL := 4) (ret := (some .int)) (by decide) rfl ?_
  intro p e s m args below meth cd s₁ B hml hv0
  obtain ⟨rfl, hP, hK⟩ := hv0
  have hx := B.exec
  have hb := B.bytes
  have hr := B.returns
  have hts := atoms_spec (ws := w_NW_bytesIn) B.pre
  have hown : s.vm.findClass R_NW = some m.cls := findClass_of_methodNamed B.named
  have hlocks := B.notSynchronized
  have hl := lv_entry ([.long q]) (n := 4) (Nat.le_of_ble_eq_true rfl)
  rw [lg_entry_eq]
  generalize (lg_sl ([.long q]) ++ List.replicate (4 - (lg_sl ([.long q])).length) Slot.unset).toArray = ls at hl ⊢
  have hl : lv_has ls 4 [(0, .long q)] := hl
  refine lv_iconst (v := nI 0) hx hb d_NW_bytesIn_0 (by decide) ?_
  refine lv_istore_n hx hb d_NW_bytesIn_1 rfl hl (by decide) rfl (fun ls hl => ?_)
  replace hl : lv_has ls 4 [(2, .int (nI 0)), (0, .long q)] := hl
  refine lv_bipush (v := nI 56) hx hb d_NW_bytesIn_2 (by decide) ?_
  refine nw_ti (y := nI (64 - 8 * 0) - nI 8) (by decide) ?_
  refine lv_istore_n hx hb d_NW_bytesIn_4 rfl hl (by decide) rfl (fun ls hl => ?_)
  replace hl : lv_has ls 4 [(3, .int (nI (64 - 8 * 0) - nI 8)), (2, .int (nI 0)), (0, .long q)] := hl
  refine nw_loopR (σ := Nat) (fun k => k ≤ 8) (fun k => [(3, .int (nI (64 - 8 * k) - nI 8)), (2, .int (nI (nw_cnt (fun j => nw_bk q j ≠ 0) k))), (0, .long q)]) (fun k => 8 - k) (fun x hI ih ls hl => ?_) 0 (Nat.zero_le _) hl
  obtain ⟨k, hx9⟩ : ∃ z, z = x := ⟨x, rfl⟩
  subst hx9
  replace hI : k ≤ 8 := hI
  replace hl : lv_has ls 4 [(3, .int (nI (64 - 8 * k) - nI 8)), (2, .int (nI (nw_cnt (fun j => nw_bk q j ≠ 0) k))), (0, .long q)] := hl
  have hcn := nw_cnt_le (fun j => nw_bk q j ≠ 0) k
  have hbk := nw_bk_lt q k
  refine lv_iload_n hx hb d_NW_bytesIn_5 rfl (lv_at hl 0 rfl) ?_
  refine lv_if_lt hx hb d_NW_bytesIn_6 (tgt := 26) (by decide) (fun g1 => ?_) (fun g1 => ?_)
  · rw [nw_s8 hI] at g1
    refine lv_iload_n hx hb d_NW_bytesIn_26 rfl (lv_at hl 1 rfl) ?_
    exact W.iret (v := nI (nw_cnt (fun j => nw_bk q j ≠ 0) k)) hx hb hr (fun t ht hW => ⟨_, rfl, by rw [g1], ht⟩) (fun q hq => by cases hq) d_NW_bytesIn_27
  · rw [nw_s8 hI] at g1
    have hk8 : k < 8 := by omega
    rw [nw_s8n hk8] at hl
    have hl : lv_has ls 4 [(3, .int (nI (56 - 8 * k))), (2, .int (nI (nw_cnt (fun j => nw_bk q j ≠ 0) k))), (0, .long q)] := hl
    refine lv_lload_n hx hb d_NW_bytesIn_9 rfl (lv_at hl 2 rfl) ?_
    refine lv_iload_n hx hb d_NW_bytesIn_10 rfl (lv_at hl 0 rfl) ?_
    refine vp_callSi (va_Run.run (va_runS (As := [.long q, .int (nI (56 - 8 * k))]) (rest := []) ⟨hx, hb, hml, hown, hts⟩ (c_NW_byteOf l dC dI q (56 - 8 * k) (by omega)) (cwS 2 hts (nw_GS (nw_m 164 rfl) (nw_m 165 rfl) (nw_m 43 rfl) (nw_m 166 rfl)) rfl rfl rfl (by decide +kernel) ⟨Nat.le_of_ble_eq_true rfl, Nat.le_of_ble_eq_true rfl⟩) (nw_preS hK hP [] [] rfl rfl) rfl rfl hl.1 rfl (lv_room (Nat.le_of_ble_eq_true rfl)) d_NW_bytesIn_11 ⟨Nat.le_of_ble_eq_true rfl, Nat.le_of_ble_eq_true rfl⟩)) (fun r her => ?_)
    subst her
    refine nw_ti (y := nI (nw_bk q k)) (rfl) ?_
    refine lv_if_eq hx hb d_NW_bytesIn_14 (tgt := 20) (by decide) (fun r1 => ?_) (fun r1 => ?_)
    · rw [nw_eq0 (by omega)] at r1
      rw [← nw_cnt_neg (f := fun j => nw_bk q j ≠ 0) (n := k) (fun h => h r1)] at hl
      have hl : lv_has ls 4 [(3, .int (nI (56 - 8 * k))), (2, .int (nI (nw_cnt (fun j => nw_bk q j ≠ 0) (k + 1)))), (0, .long q)] := hl
      refine lv_iinc (v := nI (64 - 8 * (k + 1)) - nI 8) hx hb d_NW_bytesIn_20 hl (k := 0) rfl (nw_s8d hk8) (by decide) rfl (fun ls hl => ?_)
      have hl : lv_has ls 4 [(3, .int (nI (64 - 8 * (k + 1)) - nI 8)), (2, .int (nI (nw_cnt (fun j => nw_bk q j ≠ 0) (k + 1)))), (0, .long q)] := hl
      refine lv_goto hx hb d_NW_bytesIn_23 (tgt := 5) (by decide) ?_
      exact ih (k + 1) (by omega) (show 8 - (k + 1) < 8 - k by omega) _ hl
    · rw [nw_eq0 (by omega)] at r1
      refine lv_iinc (v := nI ((nw_cnt (fun j => nw_bk q j ≠ 0) k) + 1)) hx hb d_NW_bytesIn_17 hl (k := 1) rfl (nI_add (nw_cnt (fun j => nw_bk q j ≠ 0) k) 1) (by decide) rfl (fun ls hl => ?_)
      have hl : lv_has ls 4 [(2, .int (nI ((nw_cnt (fun j => nw_bk q j ≠ 0) k) + 1))), (3, .int (nI (56 - 8 * k))), (0, .long q)] := hl
      rw [← nw_cnt_pos (f := fun j => nw_bk q j ≠ 0) (n := k) r1] at hl
      have hl : lv_has ls 4 [(2, .int (nI (nw_cnt (fun j => nw_bk q j ≠ 0) (k + 1)))), (3, .int (nI (56 - 8 * k))), (0, .long q)] := hl
      refine lv_iinc (v := nI (64 - 8 * (k + 1)) - nI 8) hx hb d_NW_bytesIn_20 hl (k := 1) rfl (nw_s8d hk8) (by decide) rfl (fun ls hl => ?_)
      have hl : lv_has ls 4 [(3, .int (nI (64 - 8 * (k + 1)) - nI 8)), (2, .int (nI (nw_cnt (fun j => nw_bk q j ≠ 0) (k + 1)))), (0, .long q)] := hl
      refine lv_goto hx hb d_NW_bytesIn_23 (tgt := 5) (by decide) ?_
      exact ih (k + 1) (by omega) (show 8 - (k + 1) < 8 - k by omega) _ hl

set_option maxHeartbeats 4000000 in
set_option maxRecDepth 100000 in
theorem c_NW_append (l : Launch) (dC : Nat → ClassId) (dI : Nat → Nat → Nat) (sz : Nat) (cB : ClassId) (oN oI oT oW oR oP oM oE : Nat) (aI ni : Nat) (ci : Nat → Nat) (q : Int64) (hyes : ∀ k, k < 8 → ¬ nw_bad (nw_bk q k)) (hroom : ni + nw_cnt (fun j => nw_bk q j ≠ 0) 8 ≤ 60) (hci : ∀ j, ci j < 127) : Met l y_NW_appendToInput w_NW_appendToInput ({ frames := 1, cells := 0, slots := 0, locals := 22 }) (nw_Pw [.ref oN, .long q] (dC, dI) nw_cls [(cB, .byte)] [(oN, .inr (0, [.ref oI, .ref oT, .ref oW, .ref oR, .ref oP, .ref oM, .ref oE])), (oI, .inr (6, [.ref aI, .int (nI ni)])), (aI, nw_ai cB 60 ci)] sz) (va_Qv (fun u : Nat → Nat => ((∀ j, j < ni → u j = ci j) ∧ (∀ i, i < 8 → nw_bk q i ≠ 0 → u (ni + nw_cnt (fun j => nw_bk q j ≠ 0) i) = nw_bk q i) ∧ ∀ j, u j < 127)) (nw_B (dC, dI) nw_cls (va_A [(oN, .inr (0, [.ref oI, .ref oT, .ref oW, .ref oR, .ref oP, .ref oM, .ref oE])), (oI, .inr (6, [.ref aI, .int (nI ni)])), (aI, nw_ai cB 60 ci)] sz) (fun u => [(oN, .inr (0, [.ref oI, .ref oT, .ref oW, .ref oR, .ref oP, .ref oM, .ref oE])), (oI, .inr (6, [.ref aI, .int (nI (ni + nw_cnt (fun j => nw_bk q j ≠ 0) 8))])), (aI, nw_ai cB 60 u)])) (va_A [(oN, .inr (0, [.ref oI, .ref oT, .ref oW, .ref oR, .ref oP, .ref oM, .ref oE])), (oI, .inr (6, [.ref aI, .int (nI ni)])), (aI, nw_ai cB 60 ci)] sz)) 0 0 (va_A [(oN, .inr (0, [.ref oI, .ref oT, .ref oW, .ref oR, .ref oP, .ref oM, .ref oE])), (oI, .inr (6, [.ref aI, .int (nI ni)])), (aI, nw_ai cB 60 ci)] sz) := by
  refine Met.ofW (cc := b_NW_appendToInput) (maxL := 5) (ret := none) (by decide) rfl ?_
  intro p e s m args below meth cd s₁ B hml hv0
  obtain ⟨rfl, hsz, hP, hK, hD0⟩ := hv0
  have hx := B.exec
  have hb := B.bytes
  have hr := B.returns
  have hts := atoms_spec (ws := w_NW_appendToInput) B.pre
  have hown : s.vm.findClass R_NW = some m.cls := findClass_of_methodNamed B.named
  have hlocks := B.notSynchronized
  subst hsz
  have hD := hD0.self (sz := s.heap.size)
  generalize hAe : va_A [(oN, .inr (0, [.ref oI, .ref oT, .ref oW, .ref oR, .ref oP, .ref oM, .ref oE])), (oI, .inr (6, [.ref aI, .int (nI ni)])), (aI, nw_ai cB 60 ci)] s.heap.size = A at hD ⊢
  have hA : ∀ q : Nat, s.heap.size ≤ q → A q := fun q h => by rw [← hAe]; exact Or.inr h
  have hS : va_S A s.heap s.heap [] := va_S.rf
  have hl := lv_entry ([.ref oN, .long q]) (n := 5) (Nat.le_of_ble_eq_true rfl)
  rw [lg_entry_eq]
  generalize (lg_sl ([.ref oN, .long q]) ++ List.replicate (5 - (lg_sl ([.ref oN, .long q])).length) Slot.unset).toArray = ls at hl ⊢
  have hl : lv_has ls 5 [(0, .ref oN), (1, .long q)] := hl
  refine lv_bipush (v := nI 56) hx hb d_NW_appendToInput_0 (by decide) ?_
  refine nw_ti (y := nI (64 - 8 * 0) - nI 8) (by decide) ?_
  refine lv_istore_n hx hb d_NW_appendToInput_2 rfl hl (by decide) rfl (fun ls hl => ?_)
  replace hl : lv_has ls 5 [(3, .int (nI (64 - 8 * 0) - nI 8)), (0, .ref oN), (1, .long q)] := hl
  refine nw_loopW (σ := Nat × (Nat → Nat)) (fun x => match x with | (k, f) => k ≤ 8 ∧ ((∀ j, j < ni → f j = ci j) ∧ (∀ i, i < k → nw_bk q i ≠ 0 → f (ni + nw_cnt (fun j => nw_bk q j ≠ 0) i) = nw_bk q i) ∧ ∀ j, f j < 127)) (fun x => match x with | (k, f) => [(3, .int (nI (64 - 8 * k) - nI 8)), (1, .long q), (0, .ref oN)]) (fun x => match x with | (k, f) => [(oN, .inr (0, [.ref oI, .ref oT, .ref oW, .ref oR, .ref oP, .ref oM, .ref oE])), (oI, .inr (6, [.ref aI, .int (nI (ni + nw_cnt (fun j => nw_bk q j ≠ 0) k))])), (aI, nw_ai cB 60 f)]) (fun x => match x with | (k, f) => 8 - k) (fun x hI ih ls H locs hl hP hD hS => ?_) (0, ci) (⟨Nat.zero_le _, fun j _ => rfl, fun i h => absurd h (Nat.not_lt_zero i), hci⟩) (lv_sub hl [0, 2, 1] rfl) hP hD hS
  obtain ⟨k, f⟩ := x
  replace hI : k ≤ 8 ∧ ((∀ j, j < ni → f j = ci j) ∧ (∀ i, i < k → nw_bk q i ≠ 0 → f (ni + nw_cnt (fun j => nw_bk q j ≠ 0) i) = nw_bk q i) ∧ ∀ j, f j < 127) := hI
  replace hl : lv_has ls 5 [(3, .int (nI (64 - 8 * k) - nI 8)), (1, .long q), (0, .ref oN)] := hl
  replace hP : va_P (dC, dI) nw_cls [(oN, .inr (0, [.ref oI, .ref oT, .ref oW, .ref oR, .ref oP, .ref oM, .ref oE])), (oI, .inr (6, [.ref aI, .int (nI (ni + nw_cnt (fun j => nw_bk q j ≠ 0) k))])), (aI, nw_ai cB 60 f)] H := hP
  replace hD : va_D A [(oN, .inr (0, [.ref oI, .ref oT, .ref oW, .ref oR, .ref oP, .ref oM, .ref oE])), (oI, .inr (6, [.ref aI, .int (nI (ni + nw_cnt (fun j => nw_bk q j ≠ 0) k))])), (aI, nw_ai cB 60 f)] := hD
  obtain ⟨hk, hf1, hf2, hf3⟩ := hI
  have hcn := nw_cnt_mono (fun j => nw_bk q j ≠ 0) (i := k) (j := 8) hk
  have hbk := nw_bk_lt q k
  refine lv_iload_n hx hb d_NW_appendToInput_3 rfl (lv_at hl 0 rfl) ?_
  refine lv_if_lt hx hb d_NW_appendToInput_4 (tgt := 34) (by decide) (fun g1 => ?_) (fun g1 => ?_)
  · rw [nw_s8 hk] at g1
    rw [g1] at hP hD hf2
    replace hP : va_P (dC, dI) nw_cls [(oN, .inr (0, [.ref oI, .ref oT, .ref oW, .ref oR, .ref oP, .ref oM, .ref oE])), (oI, .inr (6, [.ref aI, .int (nI (ni + nw_cnt (fun j => nw_bk q j ≠ 0) 8))])), (aI, nw_ai cB 60 f)] H := hP
    replace hD : va_D A [(oN, .inr (0, [.ref oI, .ref oT, .ref oW, .ref oR, .ref oP, .ref oM, .ref oE])), (oI, .inr (6, [.ref aI, .int (nI (ni + nw_cnt (fun j => nw_bk q j ≠ 0) 8))])), (aI, nw_ai cB 60 f)] := hD
    exact W.vret hx hb hr (fun t ht hW => ⟨⟨f, rfl, ⟨hf1, hf2, hf3⟩, by rw [ht]; exact hP, hD⟩, hS.F ht⟩) hS.2.2 d_NW_appendToInput_34
  · rw [nw_s8 hk] at g1
    have hk8 : k < 8 := by omega
    rw [nw_s8n hk8] at hl
    have hl : lv_has ls 5 [(3, .int (nI (56 - 8 * k))), (1, .long q), (0, .ref oN)] := hl
    refine lv_lload_n hx hb d_NW_appendToInput_7 rfl (lv_at hl 1 rfl) ?_
    refine lv_iload_n hx hb d_NW_appendToInput_8 rfl (lv_at hl 0 rfl) ?_
    refine vp_callSi (va_Run.run (va_runS (As := [.long q, .int (nI (56 - 8 * k))]) (rest := []) ⟨hx, hb, hml, hown, hts⟩ (c_NW_byteOf l dC dI q (56 - 8 * k) (by omega)) (cwS 2 hts (nw_GS (nw_m 164 rfl) (nw_m 165 rfl) (nw_m 43 rfl) (nw_m 166 rfl)) rfl rfl rfl (by decide +kernel) ⟨Nat.le_of_ble_eq_true rfl, Nat.le_of_ble_eq_true rfl⟩) (nw_preS hK hP [] [] rfl rfl) rfl rfl hl.1 rfl (lv_room (Nat.le_of_ble_eq_true rfl)) d_NW_appendToInput_9 ⟨Nat.le_of_ble_eq_true rfl, Nat.le_of_ble_eq_true rfl⟩)) (fun r her => ?_)
    subst her
    refine nw_ti (y := nI (nw_bk q k)) (rfl) ?_
    refine lv_istore hx hb d_NW_appendToInput_12 hl (by decide) rfl (fun ls hl => ?_)
    replace hl : lv_has ls 5 [(4, .int (nI (nw_bk q k))), (3, .int (nI (56 - 8 * k))), (1, .long q), (0, .ref oN)] := hl
    refine lv_iload hx hb d_NW_appendToInput_14 (lv_at hl 0 rfl) ?_
    refine lv_if_eq hx hb d_NW_appendToInput_16 (tgt := 28) (by decide) (fun r1 => ?_) (fun r1 => ?_)
    · rw [nw_eq0 (by omega)] at r1
      rw [← nw_cnt_neg (f := fun j => nw_bk q j ≠ 0) (n := k) (fun h => h r1)] at hP hD
      replace hP : va_P (dC, dI) nw_cls [(oN, .inr (0, [.ref oI, .ref oT, .ref oW, .ref oR, .ref oP, .ref oM, .ref oE])), (oI, .inr (6, [.ref aI, .int (nI (ni + nw_cnt (fun j => nw_bk q j ≠ 0) (k + 1)))])), (aI, nw_ai cB 60 f)] H := hP
      replace hD : va_D A [(oN, .inr (0, [.ref oI, .ref oT, .ref oW, .ref oR, .ref oP, .ref oM, .ref oE])), (oI, .inr (6, [.ref aI, .int (nI (ni + nw_cnt (fun j => nw_bk q j ≠ 0) (k + 1)))])), (aI, nw_ai cB 60 f)] := hD
      refine lv_iinc (v := nI (64 - 8 * (k + 1)) - nI 8) hx hb d_NW_appendToInput_28 hl (k := 1) rfl (nw_s8d hk8) (by decide) rfl (fun ls hl => ?_)
      have hl : lv_has ls 5 [(3, .int (nI (64 - 8 * (k + 1)) - nI 8)), (4, .int (nI (nw_bk q k))), (1, .long q), (0, .ref oN)] := hl
      refine lv_goto hx hb d_NW_appendToInput_31 (tgt := 3) (by decide) ?_
      exact ih (k + 1, f) (⟨by omega, hf1, fun i hi hb => by
        by_cases e : i = k
        · rw [e] at hb; exact absurd r1 hb
        · exact hf2 i (by omega) hb, hf3⟩) (show 8 - (k + 1) < 8 - k by omega) _ _ _ (lv_sub hl [0, 2, 3] rfl) hP hD hS
    · rw [nw_eq0 (by omega)] at r1
      have hlt := nw_cnt_lt (f := fun j => nw_bk q j ≠ 0) (i := k) (n := 8) hk8 r1
      have hgk := hyes k hk8
      have hb126 : nw_bk q k ≤ 126 := by
        refine Nat.le_of_not_lt (fun h => hgk ⟨r1, Or.inr h⟩)
      refine lv_aload_n hx hb d_NW_appendToInput_19 rfl (lv_at hl 3 rfl) ?_
      refine va_get (D := (dC, dI)) (ci := 0) (v := .ref oI) (C := R_NW) (T := F_NW) (N := 7) hx hb hts hin_NW hown hK hP 0 rfl rfl 0 (by decide) (hts _ (nw_mc 8 rfl)) (fun _ h9 => h9) rfl d_NW_appendToInput_20 ?_
      refine lv_iload hx hb d_NW_appendToInput_23 (lv_at hl 0 rfl) ?_
      refine nw_callv (wc := [(oI, .inr (6, [.ref aI, .int (nI (ni + nw_cnt (fun j => nw_bk q j ≠ 0) k))])), (aI, nw_ai cB 60 f)]) (wr := [(oN, .inr (0, [.ref oI, .ref oT, .ref oW, .ref oR, .ref oP, .ref oM, .ref oE]))]) hP hD hS hA [1, 2] [0] rfl rfl (by decide) (by decide) (va_runV (As := [.int (nI (nw_bk q k))]) (rest := []) ⟨hx, hb, hml, hown, hts⟩ (c_Row_append l dC dI _ cB oI aI (ni + nw_cnt (fun j => nw_bk q j ≠ 0) k) f (nw_bk q k) (by omega) (by omega)) (cwV (C := R_Row) 1 hts (nw_GV (nw_m 167 rfl) (nw_m 168 rfl) (nw_m 169 rfl) (nw_m 5 rfl) (nw_m 170 rfl)) rfl rfl rfl (by decide +kernel) ⟨Nat.le_of_ble_eq_true rfl, Nat.le_of_ble_eq_true rfl⟩) (nw_prewV (q0 := 1) (ci := 6) (q := (R_Row, F_Row, 2)) hK hP hD [1, 2] [0] (by decide) rfl rfl rfl rfl) rfl rfl hl.1 rfl (lv_room (Nat.le_of_ble_eq_true rfl)) d_NW_appendToInput_25 ⟨Nat.le_of_ble_eq_true rfl, Nat.le_of_ble_eq_true rfl⟩) (fun _ H locs hw hP hD hS => ?_)
      replace hP : va_P (dC, dI) nw_cls [(oN, .inr (0, [.ref oI, .ref oT, .ref oW, .ref oR, .ref oP, .ref oM, .ref oE])), (oI, .inr (6, [.ref aI, .int (nI ((ni + nw_cnt (fun j => nw_bk q j ≠ 0) k) + 1))])), (aI, nw_ai cB 60 (va_up f (ni + nw_cnt (fun j => nw_bk q j ≠ 0) k) (nw_bk q k)))] H := hP
      replace hD : va_D A [(oN, .inr (0, [.ref oI, .ref oT, .ref oW, .ref oR, .ref oP, .ref oM, .ref oE])), (oI, .inr (6, [.ref aI, .int (nI ((ni + nw_cnt (fun j => nw_bk q j ≠ 0) k) + 1))])), (aI, nw_ai cB 60 (va_up f (ni + nw_cnt (fun j => nw_bk q j ≠ 0) k) (nw_bk q k)))] := hD
      have e9 : ni + nw_cnt (fun j => nw_bk q j ≠ 0) k + 1 = ni + nw_cnt (fun j => nw_bk q j ≠ 0) (k + 1) := by rw [nw_cnt_pos (f := fun j => nw_bk q j ≠ 0) (n := k) r1]; omega
      rw [e9] at hP hD
      replace hP : va_P (dC, dI) nw_cls [(oN, .inr (0, [.ref oI, .ref oT, .ref oW, .ref oR, .ref oP, .ref oM, .ref oE])), (oI, .inr (6, [.ref aI, .int (nI (ni + nw_cnt (fun j => nw_bk q j ≠ 0) (k + 1)))])), (aI, nw_ai cB 60 (va_up f (ni + nw_cnt (fun j => nw_bk q j ≠ 0) k) (nw_bk q k)))] H := hP
      replace hD : va_D A [(oN, .inr (0, [.ref oI, .ref oT, .ref oW, .ref oR, .ref oP, .ref oM, .ref oE])), (oI, .inr (6, [.ref aI, .int (nI (ni + nw_cnt (fun j => nw_bk q j ≠ 0) (k + 1)))])), (aI, nw_ai cB 60 (va_up f (ni + nw_cnt (fun j => nw_bk q j ≠ 0) k) (nw_bk q k)))] := hD
      refine lv_iinc (v := nI (64 - 8 * (k + 1)) - nI 8) hx hb d_NW_appendToInput_28 hl (k := 1) rfl (nw_s8d hk8) (by decide) rfl (fun ls hl => ?_)
      have hl : lv_has ls 5 [(3, .int (nI (64 - 8 * (k + 1)) - nI 8)), (4, .int (nI (nw_bk q k))), (1, .long q), (0, .ref oN)] := hl
      refine lv_goto hx hb d_NW_appendToInput_31 (tgt := 3) (by decide) ?_
      exact ih (k + 1, va_up f (ni + nw_cnt (fun j => nw_bk q j ≠ 0) k) (nw_bk q k)) (⟨by omega, fun j hj => (va_up_ne f _ (by omega)).trans (hf1 j hj), fun i hi hb => by
        by_cases e : i = k
        · rw [e]; exact va_up_self f _ _
        · have h1 := nw_cnt_lt (f := fun j => nw_bk q j ≠ 0) (i := i) (n := k) (by omega) hb
          exact (va_up_ne f _ (by omega)).trans (hf2 i (by omega) hb), fun j => by
        by_cases e : j = ni + nw_cnt (fun j => nw_bk q j ≠ 0) k
        · rw [e, va_up_self]; omega
        · rw [va_up_ne _ _ e]; exact hf3 j⟩) (show 8 - (k + 1) < 8 - k by omega) _ _ _ (lv_sub hl [0, 2, 3] rfl) hP hD hS

set_option maxHeartbeats 4000000 in
set_option maxRecDepth 100000 in
theorem c_NW_count (l : Launch) (dC : Nat → ClassId) (dI : Nat → Nat → Nat) (cI : ClassId) (oN oI oT oW oR oP oM oE : Nat) (aI ni : Nat) (aW bW wn : Nat) (st : Nat → Nat) (aC aL aS rn : Nat) (q : Int32) (hwn : wn ≤ 1000) (hm : ∀ i, i < wn → st i ≤ st (i + 1) ∧ st (i + 1) ≤ 12000 ∧ st (i + 1) - st i ≤ 60) : Met l y_NW_count w_NW_count ({ frames := 2, cells := 0, slots := 0, locals := 43 }) (nw_Pr [.ref oN, .int q] (dC, dI) nw_cls [(cI, .int)] [(oN, .inr (0, [.ref oI, .ref oT, .ref oW, .ref oR, .ref oP, .ref oM, .ref oE])), (oI, .inr (6, [.ref aI, .int (nI ni)])), (oW, .inr (7, [.ref aW, .ref bW, .int (nI wn)])), (bW, nw_ai cI 1001 st), (oR, .inr (5, [.ref aC, .ref aL, .ref aS, .int (nI rn)]))]) (vp_Si (fun r => r = nw_sw q ni wn (st wn) rn (nw_mx (fun i => st (i + 1) - st i) wn))) 0 0 (fun _ => False) := by
  refine Met.ofW (cc := b_NW_count) (maxL := 2) (ret := (some .int)) (by decide) rfl ?_
  intro p e s m args below meth cd s₁ B hml hv0
  obtain ⟨rfl, hP, hK⟩ := hv0
  have hx := B.exec
  have hb := B.bytes
  have hr := B.returns
  have hts := atoms_spec (ws := w_NW_count) B.pre
  have hown : s.vm.findClass R_NW = some m.cls := findClass_of_methodNamed B.named
  have hlocks := B.notSynchronized
  have hl := lv_entry ([.ref oN, .int q]) (n := 2) (Nat.le_of_ble_eq_true rfl)
  rw [lg_entry_eq]
  generalize (lg_sl ([.ref oN, .int q]) ++ List.replicate (2 - (lg_sl ([.ref oN, .int q])).length) Slot.unset).toArray = ls at hl ⊢
  have hl : lv_has ls 2 [(0, .ref oN), (1, .int q)] := hl
  refine lv_iload_n hx hb d_NW_count_0 rfl (lv_at hl 1 rfl) ?_
  by_cases hs0 : (q).toInt = 0
  · refine lv_tableIn hx hb d_NW_count_1 (off := 35) (tgt := 36) (by omega) (by omega) (by rw [hs0]; rfl) (by decide) ?_
    refine lv_aload_n hx hb d_NW_count_36 rfl (lv_at hl 0 rfl) ?_
    refine va_get (D := (dC, dI)) (ci := 0) (v := .ref oI) (C := R_NW) (T := F_NW) (N := 7) hx hb hts hin_NW hown hK hP 0 rfl rfl 0 (by decide) (hts _ (nw_mc 8 rfl)) (fun _ h9 => h9) rfl d_NW_count_37 ?_
    refine vp_callSi (va_Run.run (va_runV (As := []) (rest := []) ⟨hx, hb, hml, hown, hts⟩ (c_Row_length l dC dI oI aI ni) (cwV (C := R_Row) 0 hts (nw_GV (nw_m 47 rfl) (nw_m 48 rfl) (nw_m 49 rfl) (nw_m 5 rfl) (nw_m 50 rfl)) rfl rfl rfl (by decide +kernel) ⟨Nat.le_of_ble_eq_true rfl, Nat.le_of_ble_eq_true rfl⟩) (nw_preV (q0 := 1) (ci := 6) (q := (R_Row, F_Row, 2)) hK hP [1] [] rfl rfl rfl rfl) rfl rfl hl.1 rfl (lv_room (Nat.le_of_ble_eq_true rfl)) d_NW_count_40 ⟨Nat.le_of_ble_eq_true rfl, Nat.le_of_ble_eq_true rfl⟩)) (fun r her => ?_)
    subst her
    exact W.iret (v := nI ni) hx hb hr (fun t ht hW => ⟨_, rfl, by unfold nw_sw; rw [if_pos hs0], ht⟩) (fun q hq => by cases hq) d_NW_count_43
  · by_cases hs1 : (q).toInt = 1
    · refine lv_tableIn hx hb d_NW_count_1 (off := 43) (tgt := 44) (by omega) (by omega) (by rw [hs1]; rfl) (by decide) ?_
      refine lv_aload_n hx hb d_NW_count_44 rfl (lv_at hl 0 rfl) ?_
      refine va_get (D := (dC, dI)) (ci := 0) (v := .ref oW) (C := R_NW) (T := F_NW) (N := 7) hx hb hts hin_NW hown hK hP 0 rfl rfl 2 (by decide) (hts _ (nw_mc 15 rfl)) (fun _ h9 => h9) rfl d_NW_count_45 ?_
      refine vp_callSi (va_Run.run (va_runV (As := []) (rest := []) ⟨hx, hb, hml, hown, hts⟩ (c_WL_size l dC dI oW aW bW wn) (cwV (C := R_WL) 0 hts (nw_GV (nw_m 76 rfl) (nw_m 77 rfl) (nw_m 78 rfl) (nw_m 12 rfl) (nw_m 79 rfl)) rfl rfl rfl (by decide +kernel) ⟨Nat.le_of_ble_eq_true rfl, Nat.le_of_ble_eq_true rfl⟩) (nw_preV (q0 := 2) (ci := 7) (q := (R_WL, F_WL, 3)) hK hP [2] [] rfl rfl rfl rfl) rfl rfl hl.1 rfl (lv_room (Nat.le_of_ble_eq_true rfl)) d_NW_count_48 ⟨Nat.le_of_ble_eq_true rfl, Nat.le_of_ble_eq_true rfl⟩)) (fun r her => ?_)
      subst her
      exact W.iret (v := nI wn) hx hb hr (fun t ht hW => ⟨_, rfl, by unfold nw_sw; rw [if_neg hs0, if_pos hs1], ht⟩) (fun q hq => by cases hq) d_NW_count_51
    · by_cases hs2 : (q).toInt = 2
      · refine lv_tableIn hx hb d_NW_count_1 (off := 51) (tgt := 52) (by omega) (by omega) (by rw [hs2]; rfl) (by decide) ?_
        refine lv_aload_n hx hb d_NW_count_52 rfl (lv_at hl 0 rfl) ?_
        refine va_get (D := (dC, dI)) (ci := 0) (v := .ref oW) (C := R_NW) (T := F_NW) (N := 7) hx hb hts hin_NW hown hK hP 0 rfl rfl 2 (by decide) (hts _ (nw_mc 15 rfl)) (fun _ h9 => h9) rfl d_NW_count_53 ?_
        refine vp_callSi (va_Run.run (va_runV (As := []) (rest := []) ⟨hx, hb, hml, hown, hts⟩ (c_WL_characters l dC dI cI oW aW bW wn st (by omega)) (cwV (C := R_WL) 0 hts (nw_GV (nw_m 152 rfl) (nw_m 153 rfl) (nw_m 154 rfl) (nw_m 12 rfl) (nw_m 155 rfl)) rfl rfl rfl (by decide +kernel) ⟨Nat.le_of_ble_eq_true rfl, Nat.le_of_ble_eq_true rfl⟩) (nw_preV (q0 := 2) (ci := 7) (q := (R_WL, F_WL, 3)) hK hP [2, 3] [0] rfl rfl rfl rfl) rfl rfl hl.1 rfl (lv_room (Nat.le_of_ble_eq_true rfl)) d_NW_count_56 ⟨Nat.le_of_ble_eq_true rfl, Nat.le_of_ble_eq_true rfl⟩)) (fun r her => ?_)
        subst her
        exact W.iret (v := nI (st wn)) hx hb hr (fun t ht hW => ⟨_, rfl, by unfold nw_sw; rw [if_neg hs0, if_neg hs1, if_pos hs2], ht⟩) (fun q hq => by cases hq) d_NW_count_59
      · by_cases hs3 : (q).toInt = 3
        · refine lv_tableIn hx hb d_NW_count_1 (off := 59) (tgt := 60) (by omega) (by omega) (by rw [hs3]; rfl) (by decide) ?_
          refine lv_aload_n hx hb d_NW_count_60 rfl (lv_at hl 0 rfl) ?_
          refine va_get (D := (dC, dI)) (ci := 0) (v := .ref oR) (C := R_NW) (T := F_NW) (N := 7) hx hb hts hin_NW hown hK hP 0 rfl rfl 3 (by decide) (hts _ (nw_mc 21 rfl)) (fun _ h9 => h9) rfl d_NW_count_61 ?_
          refine vp_callSi (va_Run.run (va_runV (As := []) (rest := []) ⟨hx, hb, hml, hown, hts⟩ (c_Res_size l dC dI oR aC aL aS rn) (cwV (C := R_Res) 0 hts (nw_GV (nw_m 120 rfl) (nw_m 121 rfl) (nw_m 122 rfl) (nw_m 18 rfl) (nw_m 123 rfl)) rfl rfl rfl (by decide +kernel) ⟨Nat.le_of_ble_eq_true rfl, Nat.le_of_ble_eq_true rfl⟩) (nw_preV (q0 := 4) (ci := 5) (q := (R_Res, F_Res, 4)) hK hP [4] [] rfl rfl rfl rfl) rfl rfl hl.1 rfl (lv_room (Nat.le_of_ble_eq_true rfl)) d_NW_count_64 ⟨Nat.le_of_ble_eq_true rfl, Nat.le_of_ble_eq_true rfl⟩)) (fun r her => ?_)
          subst her
          exact W.iret (v := nI rn) hx hb hr (fun t ht hW => ⟨_, rfl, by unfold nw_sw; rw [if_neg hs0, if_neg hs1, if_neg hs2, if_pos hs3], ht⟩) (fun q hq => by cases hq) d_NW_count_67
        · by_cases hs4 : (q).toInt = 4
          · refine lv_tableIn hx hb d_NW_count_1 (off := 67) (tgt := 68) (by omega) (by omega) (by rw [hs4]; rfl) (by decide) ?_
            refine lv_aload_n hx hb d_NW_count_68 rfl (lv_at hl 0 rfl) ?_
            refine va_get (D := (dC, dI)) (ci := 0) (v := .ref oW) (C := R_NW) (T := F_NW) (N := 7) hx hb hts hin_NW hown hK hP 0 rfl rfl 2 (by decide) (hts _ (nw_mc 15 rfl)) (fun _ h9 => h9) rfl d_NW_count_69 ?_
            refine vp_callSi (va_Run.run (va_runV (As := []) (rest := []) ⟨hx, hb, hml, hown, hts⟩ (c_WL_longest l dC dI cI oW aW bW wn st (by omega) (fun i hi => ⟨(hm i hi).1, by have := hm i hi; omega⟩)) (cwV (C := R_WL) 0 hts (nw_GV (nw_m 156 rfl) (nw_m 157 rfl) (nw_m 158 rfl) (nw_m 12 rfl) (nw_m 159 rfl)) rfl rfl rfl (by decide +kernel) ⟨Nat.le_of_ble_eq_true rfl, Nat.le_of_ble_eq_true rfl⟩) (nw_preV (q0 := 2) (ci := 7) (q := (R_WL, F_WL, 3)) hK hP [2, 3] [0] rfl rfl rfl rfl) rfl rfl hl.1 rfl (lv_room (Nat.le_of_ble_eq_true rfl)) d_NW_count_72 ⟨Nat.le_of_ble_eq_true rfl, Nat.le_of_ble_eq_true rfl⟩)) (fun r her => ?_)
            subst her
            exact W.iret (v := nI (nw_mx (fun i => st (i + 1) - st i) wn)) hx hb hr (fun t ht hW => ⟨_, rfl, by unfold nw_sw; rw [if_neg hs0, if_neg hs1, if_neg hs2, if_neg hs3, if_pos hs4], ht⟩) (fun q hq => by cases hq) d_NW_count_75
          · refine lv_tableOut hx hb d_NW_count_1 (tgt := 76) (by omega) (by decide) ?_
            refine lv_iconst (v := (-1)) hx hb d_NW_count_76 (by decide) ?_
            exact W.iret (v := (-1)) hx hb hr (fun t ht hW => ⟨_, rfl, by unfold nw_sw; rw [if_neg hs0, if_neg hs1, if_neg hs2, if_neg hs3, if_neg hs4], ht⟩) (fun q hq => by cases hq) d_NW_count_77

set_option maxHeartbeats 4000000 in
set_option maxRecDepth 100000 in
theorem c_NW_before (l : Launch) (dC : Nat → ClassId) (dI : Nat → Nat → Nat) (sz : Nat) (cB cI : ClassId) (oN oI oT oW oR oP oM oE : Nat) (aI ni : Nat) (ci : Nat → Nat) (aT nt : Nat) (aW bW wn : Nat) (C st : Nat → Nat) (hwn : wn ≤ 1000) (hm : ∀ i, i < wn → st i ≤ st (i + 1) ∧ st (i + 1) ≤ 12000 ∧ st (i + 1) - st i ≤ 60) (hni : ni ≤ 60) (hC : ∀ j, C j < 127) (hci : ∀ j, ci j < 127) (hmono : ∀ i j, i < j → j < wn → nw_cm (fun k => C (st j + k)) (st (j + 1) - st j) ci ni < 0 → nw_cm (fun k => C (st i + k)) (st (i + 1) - st i) ci ni < 0) : Met l y_NW_before w_NW_before ({ frames := 3, cells := 0, slots := 0, locals := 70 }) (nw_Pw [.ref oN] (dC, dI) nw_cls [(cB, .byte), (cI, .int)] [(oN, .inr (0, [.ref oI, .ref oT, .ref oW, .ref oR, .ref oP, .ref oM, .ref oE])), (oI, .inr (6, [.ref aI, .int (nI ni)])), (oT, .inr (6, [.ref aT, .int (nI nt)])), (aI, nw_ai cB 60 ci), (oW, .inr (7, [.ref aW, .ref bW, .int (nI wn)])), (aW, nw_ai cB 12000 C), (bW, nw_ai cI 1001 st)] sz) (va_Qi (fun (r : Int32) (_ : Unit) => r = nI (nw_cnt (fun i => nw_cm (fun k => C (st i + k)) (st (i + 1) - st i) ci ni < 0) wn)) (nw_B (dC, dI) nw_cls (va_A [(oN, .inr (0, [.ref oI, .ref oT, .ref oW, .ref oR, .ref oP, .ref oM, .ref oE])), (oI, .inr (6, [.ref aI, .int (nI ni)])), (oT, .inr (6, [.ref aT, .int (nI nt)])), (aI, nw_ai cB 60 ci), (oW, .inr (7, [.ref aW, .ref bW, .int (nI wn)])), (aW, nw_ai cB 12000 C), (bW, nw_ai cI 1001 st)] sz) (fun _ : Unit => [(oN, .inr (0, [.ref oT, .ref oI, .ref oW, .ref oR, .ref oP, .ref oM, .ref oE])), (oI, .inr (6, [.ref aI, .int (nI ni)])), (oT, .inr (6, [.ref aT, .int (nI 0)])), (aI, nw_ai cB 60 ci), (oW, .inr (7, [.ref aW, .ref bW, .int (nI wn)])), (aW, nw_ai cB 12000 C), (bW, nw_ai cI 1001 st)])) (va_A [(oN, .inr (0, [.ref oI, .ref oT, .ref oW, .ref oR, .ref oP, .ref oM, .ref oE])), (oI, .inr (6, [.ref aI, .int (nI ni)])), (oT, .inr (6, [.ref aT, .int (nI nt)])), (aI, nw_ai cB 60 ci), (oW, .inr (7, [.ref aW, .ref bW, .int (nI wn)])), (aW, nw_ai cB 12000 C), (bW, nw_ai cI 1001 st)] sz)) 0 0 (va_A [(oN, .inr (0, [.ref oI, .ref oT, .ref oW, .ref oR, .ref oP, .ref oM, .ref oE])), (oI, .inr (6, [.ref aI, .int (nI ni)])), (oT, .inr (6, [.ref aT, .int (nI nt)])), (aI, nw_ai cB 60 ci), (oW, .inr (7, [.ref aW, .ref bW, .int (nI wn)])), (aW, nw_ai cB 12000 C), (bW, nw_ai cI 1001 st)] sz) := by
  refine Met.ofW (cc := b_NW_before) (maxL := 1) (ret := (some .int)) (by decide) rfl ?_
  intro p e s m args below meth cd s₁ B hml hv0
  obtain ⟨rfl, hsz, hP, hK, hD0⟩ := hv0
  have hx := B.exec
  have hb := B.bytes
  have hr := B.returns
  have hts := atoms_spec (ws := w_NW_before) B.pre
  have hown : s.vm.findClass R_NW = some m.cls := findClass_of_methodNamed B.named
  have hlocks := B.notSynchronized
  subst hsz
  have hD := hD0.self (sz := s.heap.size)
  generalize hAe : va_A [(oN, .inr (0, [.ref oI, .ref oT, .ref oW, .ref oR, .ref oP, .ref oM, .ref oE])), (oI, .inr (6, [.ref aI, .int (nI ni)])), (oT, .inr (6, [.ref aT, .int (nI nt)])), (aI, nw_ai cB 60 ci), (oW, .inr (7, [.ref aW, .ref bW, .int (nI wn)])), (aW, nw_ai cB 12000 C), (bW, nw_ai cI 1001 st)] s.heap.size = A at hD ⊢
  have hA : ∀ q : Nat, s.heap.size ≤ q → A q := fun q h => by rw [← hAe]; exact Or.inr h
  have hS : va_S A s.heap s.heap [] := va_S.rf
  have hl := lv_entry ([.ref oN]) (n := 1) (Nat.le_of_ble_eq_true rfl)
  rw [lg_entry_eq]
  generalize (lg_sl ([.ref oN]) ++ List.replicate (1 - (lg_sl ([.ref oN])).length) Slot.unset).toArray = ls at hl ⊢
  have hl : lv_has ls 1 [(0, .ref oN)] := hl
  refine lv_aload_n hx hb d_NW_before_0 rfl (lv_at hl 0 rfl) ?_
  refine va_get (D := (dC, dI)) (ci := 0) (v := .ref oW) (C := R_NW) (T := F_NW) (N := 7) hx hb hts hin_NW hown hK hP 0 rfl rfl 2 (by decide) (hts _ (nw_mc 15 rfl)) (fun _ h9 => h9) rfl d_NW_before_1 ?_
  refine lv_aload_n hx hb d_NW_before_4 rfl (lv_at hl 0 rfl) ?_
  refine nw_callr (wc := [(oN, .inr (0, [.ref oI, .ref oT, .ref oW, .ref oR, .ref oP, .ref oM, .ref oE])), (oI, .inr (6, [.ref aI, .int (nI ni)])), (oT, .inr (6, [.ref aT, .int (nI nt)]))]) (wr := [(aI, nw_ai cB 60 ci), (oW, .inr (7, [.ref aW, .ref bW, .int (nI wn)])), (aW, nw_ai cB 12000 C), (bW, nw_ai cI 1001 st)]) hP hD hS hA [0, 1, 2] [3, 4, 5, 6] rfl rfl (by decide) (by decide) (va_runV (As := []) (rest := [.ref oW]) ⟨hx, hb, hml, hown, hts⟩ (c_NW_take l dC dI _ oN oI oT oW oR oP oM oE aI ni aT nt) (cwV (C := R_NW) 0 hts (nw_GV (nw_m 60 rfl) (nw_m 61 rfl) (nw_m 62 rfl) (nw_m 43 rfl) (nw_m 63 rfl)) rfl rfl rfl (by decide +kernel) ⟨Nat.le_of_ble_eq_true rfl, Nat.le_of_ble_eq_true rfl⟩) (nw_prewV (q0 := 0) (ci := 0) (q := (R_NW, F_NW, 7)) hK hP hD [0, 1, 2] [] (by decide) rfl rfl rfl rfl) rfl rfl hl.1 rfl (lv_room (Nat.le_of_ble_eq_true rfl)) d_NW_before_5 ⟨Nat.le_of_ble_eq_true rfl, Nat.le_of_ble_eq_true rfl⟩) (fun r _ H locs hw hP hD hS => ?_)
  replace hP : va_P (dC, dI) nw_cls [(aI, nw_ai cB 60 ci), (oW, .inr (7, [.ref aW, .ref bW, .int (nI wn)])), (aW, nw_ai cB 12000 C), (bW, nw_ai cI 1001 st), (oN, .inr (0, [.ref oT, .ref oI, .ref oW, .ref oR, .ref oP, .ref oM, .ref oE])), (oI, .inr (6, [.ref aI, .int (nI ni)])), (oT, .inr (6, [.ref aT, .int (nI 0)]))] H := hP
  replace hD : va_D A [(aI, nw_ai cB 60 ci), (oW, .inr (7, [.ref aW, .ref bW, .int (nI wn)])), (aW, nw_ai cB 12000 C), (bW, nw_ai cI 1001 st), (oN, .inr (0, [.ref oT, .ref oI, .ref oW, .ref oR, .ref oP, .ref oM, .ref oE])), (oI, .inr (6, [.ref aI, .int (nI ni)])), (oT, .inr (6, [.ref aT, .int (nI 0)]))] := hD
  have hw := hw.symm
  subst hw
  have hP := hP.sub (ws' := [(oN, .inr (0, [.ref oT, .ref oI, .ref oW, .ref oR, .ref oP, .ref oM, .ref oE])), (oI, .inr (6, [.ref aI, .int (nI ni)])), (oT, .inr (6, [.ref aT, .int (nI 0)])), (aI, nw_ai cB 60 ci), (oW, .inr (7, [.ref aW, .ref bW, .int (nI wn)])), (aW, nw_ai cB 12000 C), (bW, nw_ai cI 1001 st)]) [4, 5, 6, 0, 1, 2, 3] rfl
  have hD := hD.sub (ws' := [(oN, .inr (0, [.ref oT, .ref oI, .ref oW, .ref oR, .ref oP, .ref oM, .ref oE])), (oI, .inr (6, [.ref aI, .int (nI ni)])), (oT, .inr (6, [.ref aT, .int (nI 0)])), (aI, nw_ai cB 60 ci), (oW, .inr (7, [.ref aW, .ref bW, .int (nI wn)])), (aW, nw_ai cB 12000 C), (bW, nw_ai cI 1001 st)]) [4, 5, 6, 0, 1, 2, 3] (by decide) rfl
  refine vp_callSi (va_Run.run (va_runV (As := [.ref oI]) (rest := []) ⟨hx, hb, hml, hown, hts⟩ (c_WL_placeOf l dC dI cB cI oW aW bW wn C st oI aI ni ci hwn hni hm (fun j => Nat.lt_trans (hC j) (by decide)) (fun j => Nat.lt_trans (hci j) (by decide)) hmono) (cwV (C := R_WL) 1 hts (nw_GV (nw_m 68 rfl) (nw_m 69 rfl) (nw_m 70 rfl) (nw_m 12 rfl) (nw_m 71 rfl)) rfl rfl rfl (by decide +kernel) ⟨Nat.le_of_ble_eq_true rfl, Nat.le_of_ble_eq_true rfl⟩) (nw_preV (q0 := 4) (ci := 7) (q := (R_WL, F_WL, 3)) hK hP [4, 5, 6, 1, 3] [0, 1] rfl rfl rfl rfl) rfl rfl hl.1 rfl (lv_room (Nat.le_of_ble_eq_true rfl)) d_NW_before_8 ⟨Nat.le_of_ble_eq_true rfl, Nat.le_of_ble_eq_true rfl⟩)) (fun r her => ?_)
  obtain ⟨p0, rfl, hp1, hp2, hp3⟩ := her
  have hpl : p0 = nw_cnt (fun i => nw_cm (fun k => C (st i + k)) (st (i + 1) - st i) ci ni < 0) wn := (nw_cnt_cut hp1 hp2 hp3).symm
  exact W.iret (v := nI p0) hx hb hr (fun t ht hW => ⟨⟨_, (), rfl, by rw [hpl], by rw [ht]; exact hP, hD⟩, hS.F ht⟩) hS.2.2 d_NW_before_11
