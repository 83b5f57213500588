set_option maxHeartbeats 4000000 in
set_option maxRecDepth 100000 in
theorem c_Met_low (l : Launch) (dC : Nat → ClassId) (dI : Nat → Nat → Nat) (b : Nat) (hb0 : b < 64) : Met l y_Met_lowBits w_Met_lowBits ({ frames := 0, cells := 0, slots := 0, locals := 0 }) (nw_Pr [.int (nI b)] (dC, dI) nw_cls [] []) (vp_Sl (fun r => r = lN (2 ^ b - 1))) 0 0 (fun _ => False) := by
  refine Met.ofW (cc := b_Met_lowBits) (maxL := 1) (ret := (some .long)) (by decide) rfl ?_
  intro p e s m args below meth cd s₁ B hml hv0
  obtain ⟨rfl, hP, hK⟩ := hv0
  have hx := B.exec
  have hb := B.bytes
  have hr := B.returns
  have hts := atoms_spec (ws := w_Met_lowBits) B.pre
  have hown : s.vm.findClass R_Met = some m.cls := findClass_of_methodNamed B.named
  have hlocks := B.notSynchronized
  have hl := lv_entry ([.int (nI b)]) (n := 1) (Nat.le_of_ble_eq_true rfl)
  rw [lg_entry_eq]
  generalize (lg_sl ([.int (nI b)]) ++ List.replicate (1 - (lg_sl ([.int (nI b)])).length) Slot.unset).toArray = ls at hl ⊢
  have hl : lv_has ls 1 [(0, .int (nI b))] := hl
  refine lv_lconst (v := lN 1) hx hb d_Met_lowBits_0 (by decide) ?_
  refine lv_iload_n hx hb d_Met_lowBits_1 rfl (lv_at hl 0 rfl) ?_
  refine lv_lshl (v := lN 1 <<< ((nI b).toInt64 &&& 63)) hx hb d_Met_lowBits_2 (rfl) ?_
  refine lv_lconst (v := lN 1) hx hb d_Met_lowBits_3 (by decide) ?_
  refine lv_lsub hx hb d_Met_lowBits_4 ?_
  refine nw_tl (y := lN (2 ^ b - 1)) (nw_lbL hb0) ?_
  exact W.lret (v := lN (2 ^ b - 1)) hx hb hr (fun t ht hW => ⟨_, rfl, rfl, ht⟩) (fun q hq => by cases hq) d_Met_lowBits_5

set_option maxHeartbeats 4000000 in
set_option maxRecDepth 100000 in
theorem c_Met_swapped (l : Launch) (dC : Nat → ClassId) (dI : Nat → Nat → Nat) (cG cJ : ClassId) (h aP aR n : Nat) (ry : Nat → Nat) (M : Nat → Nat → Nat) (pl : va_W) (k d S La : Nat) (hk : 1 ≤ k ∧ k ≤ 60) (hd : 1 ≤ d ∧ d ≤ 3) (hS0 : S < 2 ^ 60) (hLa : La < 2 ^ 60) (hM : 2 ≤ k → M (k - 2) (d - 1) < 2 ^ 61) : Met l y_Met_swapped w_Met_swapped ({ frames := 0, cells := 0, slots := 0, locals := 0 }) (nw_Pr [.ref h, .int (nI k), .int (nI d), .long (lN S), .long (lN La)] (dC, dI) nw_cls [(cG, (.array .long)), (cJ, .long)] ([(h, .inr (2, [.ref aP, .ref aR, .int (nI n)])), (aR, nw_ar cG 61 (fun k => some (ry k)))] ++ (nw_rl 61 cJ 4 ry M ++ pl))) (vp_Sl (fun r => r = lN (if k < 2 then 0 else ((M (k - 2) (d - 1) &&& S) * 2 ^ 1 &&& La) * 2 ^ 1))) 0 0 (fun _ => False) := by
  refine Met.ofW (cc := b_Met_swapped) (maxL := 9) (ret := (some .long)) (by decide) rfl ?_
  intro p e s m args below meth cd s₁ B hml hv0
  obtain ⟨rfl, hP, hK⟩ := hv0
  have hx := B.exec
  have hb := B.bytes
  have hr := B.returns
  have hts := atoms_spec (ws := w_Met_swapped) B.pre
  have hown : s.vm.findClass R_Met = some m.cls := findClass_of_methodNamed B.named
  have hlocks := B.notSynchronized
  have hl := lv_entry ([.ref h, .int (nI k), .int (nI d), .long (lN S), .long (lN La)]) (n := 9) (Nat.le_of_ble_eq_true rfl)
  rw [lg_entry_eq]
  generalize (lg_sl ([.ref h, .int (nI k), .int (nI d), .long (lN S), .long (lN La)]) ++ List.replicate (9 - (lg_sl ([.ref h, .int (nI k), .int (nI d), .long (lN S), .long (lN La)])).length) Slot.unset).toArray = ls at hl ⊢
  have hl : lv_has ls 9 [(0, .ref h), (1, .int (nI k)), (2, .int (nI d)), (3, .long (lN S)), (5, .long (lN La))] := hl
  refine lv_iload_n hx hb d_Met_swapped_0 rfl (lv_at hl 1 rfl) ?_
  refine lv_iconst (v := nI 2) hx hb d_Met_swapped_1 (by decide) ?_
  refine lv_icmp_ge hx hb d_Met_swapped_2 (tgt := 7) (by decide) (fun g1 => ?_) (fun g1 => ?_)
  · rw [nI_leI (by omega) (by omega)] at g1
    refine lv_aload_n hx hb d_Met_swapped_7 rfl (lv_at hl 0 rfl) ?_
    refine va_get (D := (dC, dI)) (ci := 2) (v := .ref aR) (C := R_Met) (T := F_Met) (N := 3) hx hb hts hin_Met hown hK hP 0 rfl rfl 1 (by decide) (hts _ (nw_mc 227 rfl)) (fun _ h9 => h9) rfl d_Met_swapped_8 ?_
    refine lv_iload_n hx hb d_Met_swapped_11 rfl (lv_at hl 1 rfl) ?_
    refine lv_iconst (v := nI 2) hx hb d_Met_swapped_12 (by decide) ?_
    refine lv_isub hx hb d_Met_swapped_13 ?_
    refine nw_ti (pk_sub (a := k) (b := 2) (by omega)) ?_
    refine nw_aald hx hb hK hP 1 0 rfl rfl (k := (k - 2)) (by omega) (by decide) rfl d_Met_swapped_14 ?_
    refine lv_iload_n hx hb d_Met_swapped_15 rfl (lv_at hl 2 rfl) ?_
    refine lv_iconst (v := nI 1) hx hb d_Met_swapped_16 (by decide) ?_
    refine lv_isub hx hb d_Met_swapped_17 ?_
    refine nw_ti (pk_sub (a := d) (b := 1) (by omega)) ?_
    refine nw_rlld hx hb hK (k := (k - 2)) (d := (d - 1)) hP 1 rfl (by omega) (by omega) (by decide) d_Met_swapped_18 ?_
    refine lv_lload_n hx hb d_Met_swapped_19 rfl (lv_at hl 3 rfl) ?_
    refine lv_land hx hb d_Met_swapped_20 ?_
    refine lv_iconst (v := nI 1) hx hb d_Met_swapped_21 (by decide) ?_
    refine lv_lshl (v := (lN (M (k - 2) (d - 1)) &&& lN S) <<< ((nI 1).toInt64 &&& 63)) hx hb d_Met_swapped_22 (rfl) ?_
    refine lv_lstore hx hb d_Met_swapped_23 hl (by decide) rfl (fun ls hl => ?_)
    replace hl : lv_has ls 9 [(7, .long ((lN (M (k - 2) (d - 1)) &&& lN S) <<< ((nI 1).toInt64 &&& 63))), (0, .ref h), (1, .int (nI k)), (2, .int (nI d)), (3, .long (lN S)), (5, .long (lN La))] := hl
    refine lv_lload hx hb d_Met_swapped_25 (lv_at hl 0 rfl) ?_
    refine lv_lload hx hb d_Met_swapped_27 (lv_at hl 5 rfl) ?_
    refine lv_land hx hb d_Met_swapped_29 ?_
    refine lv_iconst (v := nI 1) hx hb d_Met_swapped_30 (by decide) ?_
    refine lv_lshl (v := lN (if k < 2 then 0 else ((M (k - 2) (d - 1) &&& S) * 2 ^ 1 &&& La) * 2 ^ 1)) hx hb d_Met_swapped_31 ((nw_swL (hM (by omega)) hS0 hLa).trans (congrArg lN (by rw [if_neg (by omega)]))) ?_
    exact W.lret (v := lN (if k < 2 then 0 else ((M (k - 2) (d - 1) &&& S) * 2 ^ 1 &&& La) * 2 ^ 1)) hx hb hr (fun t ht hW => ⟨_, rfl, rfl, ht⟩) (fun q hq => by cases hq) d_Met_swapped_32
  · rw [nI_leI (by omega) (by omega)] at g1
    refine lv_lconst (v := lN 0) hx hb d_Met_swapped_5 (by decide) ?_
    refine nw_tl (y := lN (if k < 2 then 0 else ((M (k - 2) (d - 1) &&& S) * 2 ^ 1 &&& La) * 2 ^ 1)) (congrArg lN (by rw [if_pos (by omega)])) ?_
    exact W.lret (v := lN (if k < 2 then 0 else ((M (k - 2) (d - 1) &&& S) * 2 ^ 1 &&& La) * 2 ^ 1)) hx hb hr (fun t ht hW => ⟨_, rfl, rfl, ht⟩) (fun q hq => by cases hq) d_Met_swapped_6

set_option maxHeartbeats 4000000 in
set_option maxRecDepth 100000 in
theorem c_Met_least (l : Launch) (dC : Nat → ClassId) (dI : Nat → Nat → Nat) (cJ : ClassId) (h aP aR n ra : Nat) (g : Nat → Nat) (most D : Nat) (hn : n ≤ 60) (hm : most ≤ 3) (hg : ∀ d, d ≤ most → g d < 2 ^ 61 ∧ (g d).testBit n = decide (D ≤ d)) : Met l y_Met_leastSteps w_Met_leastSteps ({ frames := 0, cells := 0, slots := 0, locals := 0 }) (nw_Pr [.ref h, .ref ra, .int (nI most)] (dC, dI) nw_cls [(cJ, .long)] [(h, .inr (2, [.ref aP, .ref aR, .int (nI n)])), (ra, nw_al cJ 4 g)]) (vp_Si (fun r => r = nw_sr D most)) 0 0 (fun _ => False) := by
  refine Met.ofW (cc := b_Met_leastSteps) (maxL := 4) (ret := (some .int)) (by decide) rfl ?_
  intro p e s m args below meth cd s₁ B hml hv0
  obtain ⟨rfl, hP, hK⟩ := hv0
  have hx := B.exec
  have hb := B.bytes
  have hr := B.returns
  have hts := atoms_spec (ws := w_Met_leastSteps) B.pre
  have hown : s.vm.findClass R_Met = some m.cls := findClass_of_methodNamed B.named
  have hlocks := B.notSynchronized
  have hl := lv_entry ([.ref h, .ref ra, .int (nI most)]) (n := 4) (Nat.le_of_ble_eq_true rfl)
  rw [lg_entry_eq]
  generalize (lg_sl ([.ref h, .ref ra, .int (nI most)]) ++ List.replicate (4 - (lg_sl ([.ref h, .ref ra, .int (nI most)])).length) Slot.unset).toArray = ls at hl ⊢
  have hl : lv_has ls 4 [(0, .ref h), (1, .ref ra), (2, .int (nI most))] := hl
  refine lv_iconst (v := nI 0) hx hb d_Met_leastSteps_0 (by decide) ?_
  refine lv_istore_n hx hb d_Met_leastSteps_1 rfl hl (by decide) rfl (fun ls hl => ?_)
  replace hl : lv_has ls 4 [(3, .int (nI 0)), (0, .ref h), (1, .ref ra), (2, .int (nI most))] := hl
  refine nw_loopR (σ := Nat) (fun d => d ≤ most + 1 ∧ ∀ j, j < d → j < D) (fun d => [(3, .int (nI d)), (2, .int (nI most)), (1, .ref ra), (0, .ref h)]) (fun d => most + 1 - d) (fun x hI ih ls hl => ?_) 0 (⟨Nat.zero_le _, fun j hj => absurd hj (Nat.not_lt_zero j)⟩) (lv_sub hl [0, 3, 2, 1] rfl)
  obtain ⟨d, hx9⟩ : ∃ z, z = x := ⟨x, rfl⟩
  subst hx9
  replace hI : d ≤ most + 1 ∧ ∀ j, j < d → j < D := hI
  replace hl : lv_has ls 4 [(3, .int (nI d)), (2, .int (nI most)), (1, .ref ra), (0, .ref h)] := hl
  obtain ⟨hd, hj⟩ := hI
  refine lv_iload_n hx hb d_Met_leastSteps_2 rfl (lv_at hl 0 rfl) ?_
  refine lv_iload_n hx hb d_Met_leastSteps_3 rfl (lv_at hl 1 rfl) ?_
  refine lv_icmp_gt hx hb d_Met_leastSteps_4 (tgt := 30) (by decide) (fun g1 => ?_) (fun g1 => ?_)
  · rw [nI_ltI (by omega) (by omega)] at g1
    refine lv_iconst (v := (-1)) hx hb d_Met_leastSteps_30 (by decide) ?_
    have hD9 := hj (d - 1)
    exact W.iret (v := (-1)) hx hb hr (fun t ht hW => ⟨_, rfl, by unfold nw_sr; rw [if_neg (fun h => by have := hD9 (by omega); omega)], ht⟩) (fun q hq => by cases hq) d_Met_leastSteps_31
  · rw [nI_ltI (by omega) (by omega)] at g1
    obtain ⟨hg1, hg2⟩ := hg d (by omega)
    have hg64 := nw_s64 hg1
    refine lv_aload_n hx hb d_Met_leastSteps_7 rfl (lv_at hl 2 rfl) ?_
    refine lv_iload_n hx hb d_Met_leastSteps_8 rfl (lv_at hl 0 rfl) ?_
    refine nw_lald hx hb hK hP 1 0 rfl rfl (k := d) (by omega) (by first | decide | omega) d_Met_leastSteps_9 ?_
    refine lv_aload_n hx hb d_Met_leastSteps_10 rfl (lv_at hl 3 rfl) ?_
    refine va_get (D := (dC, dI)) (ci := 2) (v := .int (nI n)) (C := R_Met) (T := F_Met) (N := 3) hx hb hts hin_Met hown hK hP 0 rfl rfl 2 (by decide) (hts _ (nw_mc 228 rfl)) (fun _ h9 => h9) rfl d_Met_leastSteps_11 ?_
    refine lv_lushr (v := lN (g d / 2 ^ n)) hx hb d_Met_leastSteps_14 (wb_shr hg64 (by omega)) ?_
    have hd64 : g d / 2 ^ n < 2 ^ 64 := Nat.lt_of_le_of_lt (Nat.div_le_self _ _) hg64
    refine lv_lconst (v := lN 1) hx hb d_Met_leastSteps_15 (by decide) ?_
    refine lv_land hx hb d_Met_leastSteps_16 ?_
    refine nw_tl (y := lN (g d / 2 ^ n % 2)) (nw_a1 hd64) ?_
    refine lv_lconst (v := lN 0) hx hb d_Met_leastSteps_17 (by decide) ?_
    refine W.lcmp hx hb d_Met_leastSteps_18 ?_
    refine lv_if_eq hx hb d_Met_leastSteps_19 (tgt := 24) (by decide) (fun g2 => ?_) (fun g2 => ?_)
    · rw [nw_lc (Nat.lt_trans (Nat.mod_lt _ (by decide)) (by decide)), nw_tbd, hg2, decide_eq_false_iff_not] at g2
      refine lv_iinc (v := nI (d + 1)) hx hb d_Met_leastSteps_24 hl (k := 0) rfl (nI_add d 1) (by decide) rfl (fun ls hl => ?_)
      have hl : lv_has ls 4 [(3, .int (nI (d + 1))), (2, .int (nI most)), (1, .ref ra), (0, .ref h)] := hl
      refine lv_goto hx hb d_Met_leastSteps_27 (tgt := 2) (by decide) ?_
      exact ih (d + 1) (⟨by omega, fun j h => by
        by_cases e : j = d
        · omega
        · exact hj j (by omega)⟩) (show most + 1 - (d + 1) < most + 1 - d by omega) _ hl
    · rw [nw_lc (Nat.lt_trans (Nat.mod_lt _ (by decide)) (by decide)), nw_tbd, hg2, decide_eq_false_iff_not] at g2
      have hDd : D = d := by
        have h1 : D ≤ d := Classical.not_not.mp g2
        by_cases e : D = d
        · exact e
        · have := hj D (by omega); omega
      refine lv_iload_n hx hb d_Met_leastSteps_22 rfl (lv_at hl 0 rfl) ?_
      exact W.iret (v := nI d) hx hb hr (fun t ht hW => ⟨_, rfl, by unfold nw_sr; rw [if_pos (by omega), hDd], ht⟩) (fun q hq => by cases hq) d_Met_leastSteps_23

set_option maxHeartbeats 4000000 in
set_option maxRecDepth 100000 in
theorem c_Met_extend (l : Launch) (dC : Nat → ClassId) (dI : Nat → Nat → Nat) (sz : Nat) (cG cJ : ClassId) (h aP aR n : Nat) (ry : Nat → Nat) (M : Nat → Nat → Nat) (pl : va_W) (k S La most : Nat) (xw y : Nat → Nat) (hn : n ≤ 60) (hk : 1 ≤ k ∧ k ≤ 60) (hm : most ≤ 3) (hS0 : nw_PL y n (xw (k - 1)) S) (hLa : La < 2 ^ 60) (hM1 : ∀ d, d ≤ most → nw_RW xw y n (k - 1) d (M (k - 1) d)) (hM2 : 2 ≤ k → nw_PL y n (xw (k - 2)) La ∧ ∀ d, d ≤ most → nw_RW xw y n (k - 2) d (M (k - 2) d)) : Met l y_Met_extend w_Met_extend ({ frames := 1, cells := 0, slots := 0, locals := 28 }) (nw_Pw [.ref h, .int (nI k), .long (lN S), .long (lN La), .int (nI most)] (dC, dI) nw_cls [(cG, (.array .long)), (cJ, .long)] ([(h, .inr (2, [.ref aP, .ref aR, .int (nI n)])), (aR, nw_ar cG 61 (fun k => some (ry k)))] ++ (nw_rl 61 cJ 4 ry M ++ pl)) sz) (va_Qv (fun u : Nat → Nat => ∀ d, d ≤ most → nw_RW xw y n k d (u d)) (nw_B (dC, dI) nw_cls (va_A ([(h, .inr (2, [.ref aP, .ref aR, .int (nI n)])), (aR, nw_ar cG 61 (fun k => some (ry k)))] ++ (nw_rl 61 cJ 4 ry M ++ pl)) sz) (fun u => ([(h, .inr (2, [.ref aP, .ref aR, .int (nI n)])), (aR, nw_ar cG 61 (fun k => some (ry k)))] ++ (nw_rl 61 cJ 4 ry (va_up M k u) ++ pl)))) (va_A ([(h, .inr (2, [.ref aP, .ref aR, .int (nI n)])), (aR, nw_ar cG 61 (fun k => some (ry k)))] ++ (nw_rl 61 cJ 4 ry M ++ pl)) sz)) 0 0 (va_A ([(h, .inr (2, [.ref aP, .ref aR, .int (nI n)])), (aR, nw_ar cG 61 (fun k => some (ry k)))] ++ (nw_rl 61 cJ 4 ry M ++ pl)) sz) := by
  refine Met.ofW (cc := b_Met_extend) (maxL := 20) (ret := none) (by decide) rfl ?_
  intro p e s m args below meth cd s₁ B hml hv0
  obtain ⟨rfl, hsz, hP, hK, hD0⟩ := hv0
  have hx := B.exec
  have hb := B.bytes
  have hr := B.returns
  have hts := atoms_spec (ws := w_Met_extend) B.pre
  have hown : s.vm.findClass R_Met = some m.cls := findClass_of_methodNamed B.named
  have hlocks := B.notSynchronized
  subst hsz
  have hD := hD0.self (sz := s.heap.size)
  generalize hAe : va_A ([(h, .inr (2, [.ref aP, .ref aR, .int (nI n)])), (aR, nw_ar cG 61 (fun k => some (ry k)))] ++ (nw_rl 61 cJ 4 ry M ++ pl)) s.heap.size = A at hD ⊢
  have hA : ∀ q : Nat, s.heap.size ≤ q → A q := fun q h => by rw [← hAe]; exact Or.inr h
  have hS : va_S A s.heap s.heap [] := va_S.rf
  have hl := lv_entry ([.ref h, .int (nI k), .long (lN S), .long (lN La), .int (nI most)]) (n := 20) (Nat.le_of_ble_eq_true rfl)
  rw [lg_entry_eq]
  generalize (lg_sl ([.ref h, .int (nI k), .long (lN S), .long (lN La), .int (nI most)]) ++ List.replicate (20 - (lg_sl ([.ref h, .int (nI k), .long (lN S), .long (lN La), .int (nI most)])).length) Slot.unset).toArray = ls at hl ⊢
  have hl : lv_has ls 20 [(0, .ref h), (1, .int (nI k)), (2, .long (lN S)), (4, .long (lN La)), (6, .int (nI most))] := hl
  have hb60 := hS0.1
  refine lv_aload_n hx hb d_Met_extend_0 rfl (lv_at hl 0 rfl) ?_
  refine va_get (D := (dC, dI)) (ci := 2) (v := .ref aR) (C := R_Met) (T := F_Met) (N := 3) hx hb hts hin_Met hown hK hP 0 rfl rfl 1 (by decide) (hts _ (nw_mc 227 rfl)) (fun _ h9 => h9) rfl d_Met_extend_1 ?_
  refine lv_iload_n hx hb d_Met_extend_4 rfl (lv_at hl 1 rfl) ?_
  refine nw_aald hx hb hK hP 1 0 rfl rfl (k := k) (by omega) (by decide) rfl d_Met_extend_5 ?_
  refine lv_astore hx hb d_Met_extend_6 hl (by decide) rfl (fun ls hl => ?_)
  replace hl : lv_has ls 20 [(7, .ref (ry k)), (0, .ref h), (1, .int (nI k)), (2, .long (lN S)), (4, .long (lN La)), (6, .int (nI most))] := hl
  refine lv_aload_n hx hb d_Met_extend_8 rfl (lv_at hl 1 rfl) ?_
  refine va_get (D := (dC, dI)) (ci := 2) (v := .ref aR) (C := R_Met) (T := F_Met) (N := 3) hx hb hts hin_Met hown hK hP 0 rfl rfl 1 (by decide) (hts _ (nw_mc 227 rfl)) (fun _ h9 => h9) rfl d_Met_extend_9 ?_
  refine lv_iload_n hx hb d_Met_extend_12 rfl (lv_at hl 2 rfl) ?_
  refine lv_iconst (v := nI 1) hx hb d_Met_extend_13 (by decide) ?_
  refine lv_isub hx hb d_Met_extend_14 ?_
  refine nw_ti (pk_sub (a := k) (b := 1) (by omega)) ?_
  refine nw_aald hx hb hK hP 1 0 rfl rfl (k := (k - 1)) (by omega) (by decide) rfl d_Met_extend_15 ?_
  refine lv_astore hx hb d_Met_extend_16 hl (by decide) rfl (fun ls hl => ?_)
  replace hl : lv_has ls 20 [(8, .ref (ry (k - 1))), (7, .ref (ry k)), (0, .ref h), (1, .int (nI k)), (2, .long (lN S)), (4, .long (lN La)), (6, .int (nI most))] := hl
  refine lv_aload_n hx hb d_Met_extend_18 rfl (lv_at hl 2 rfl) ?_
  refine va_get (D := (dC, dI)) (ci := 2) (v := .int (nI n)) (C := R_Met) (T := F_Met) (N := 3) hx hb hts hin_Met hown hK hP 0 rfl rfl 2 (by decide) (hts _ (nw_mc 228 rfl)) (fun _ h9 => h9) rfl d_Met_extend_19 ?_
  refine lv_iconst (v := nI 1) hx hb d_Met_extend_22 (by decide) ?_
  refine lv_iadd hx hb d_Met_extend_23 ?_
  refine nw_ti (nI_add n 1) ?_
  refine vp_callSl (va_Run.run (va_runS (As := [.int (nI (n + 1))]) (rest := []) ⟨hx, hb, hml, hown, hts⟩ (c_Met_low l dC dI (n + 1) (by omega)) (cwS 1 hts (nw_GS (nw_m 229 rfl) (nw_m 230 rfl) (nw_m 30 rfl) (nw_m 231 rfl)) rfl rfl rfl (by decide +kernel) ⟨Nat.le_of_ble_eq_true rfl, Nat.le_of_ble_eq_true rfl⟩) (nw_preS hK hP [] [] rfl rfl) rfl rfl hl.1 rfl (lv_room (Nat.le_of_ble_eq_true rfl)) d_Met_extend_24 ⟨Nat.le_of_ble_eq_true rfl, Nat.le_of_ble_eq_true rfl⟩)) (fun r her => ?_)
  subst her
  refine lv_lstore hx hb d_Met_extend_27 hl (by decide) rfl (fun ls hl => ?_)
  replace hl : lv_has ls 20 [(9, .long (lN (2 ^ (n + 1) - 1))), (8, .ref (ry (k - 1))), (7, .ref (ry k)), (0, .ref h), (1, .int (nI k)), (2, .long (lN S)), (4, .long (lN La)), (6, .int (nI most))] := hl
  refine lv_aload hx hb d_Met_extend_29 (lv_at hl 2 rfl) ?_
  refine lv_iconst (v := nI 0) hx hb d_Met_extend_31 (by decide) ?_
  refine lv_aload hx hb d_Met_extend_32 (lv_at hl 1 rfl) ?_
  refine lv_iconst (v := nI 0) hx hb d_Met_extend_34 (by decide) ?_
  refine nw_rlld hx hb hK (k := (k - 1)) (d := 0) hP 1 rfl (by omega) (by omega) (by decide) d_Met_extend_35 ?_
  refine lv_lload_n hx hb d_Met_extend_36 rfl (lv_at hl 5 rfl) ?_
  refine lv_land hx hb d_Met_extend_37 ?_
  refine lv_iconst (v := nI 1) hx hb d_Met_extend_38 (by decide) ?_
  refine lv_lshl (v := lN ((M (k - 1) 0 &&& S) * 2 ^ 1)) hx hb d_Met_extend_39 (nw_keL (hM1 0 (Nat.zero_le _)).1 hb60) ?_
  refine nw_rlst hx hb hK (k := k) (d := 0) (v := ((M (k - 1) 0 &&& S) * 2 ^ 1)) hP hD hS 1 rfl (by omega) (by omega) (by decide) d_Met_extend_40 (fun H locs hP hD hS => ?_)
  replace hP : va_P (dC, dI) nw_cls ([(h, .inr (2, [.ref aP, .ref aR, .int (nI n)])), (aR, nw_ar cG 61 (fun k => some (ry k)))] ++ (nw_rl 61 cJ 4 ry (va_up M k (va_up (M k) 0 ((M (k - 1) 0 &&& S) * 2 ^ 1))) ++ pl)) H := hP
  replace hD : va_D A ([(h, .inr (2, [.ref aP, .ref aR, .int (nI n)])), (aR, nw_ar cG 61 (fun k => some (ry k)))] ++ (nw_rl 61 cJ 4 ry (va_up M k (va_up (M k) 0 ((M (k - 1) 0 &&& S) * 2 ^ 1))) ++ pl)) := hD
  refine lv_iconst (v := nI 1) hx hb d_Met_extend_41 (by decide) ?_
  refine lv_istore hx hb d_Met_extend_42 hl (by decide) rfl (fun ls hl => ?_)
  replace hl : lv_has ls 20 [(11, .int (nI 1)), (9, .long (lN (2 ^ (n + 1) - 1))), (8, .ref (ry (k - 1))), (7, .ref (ry k)), (0, .ref h), (1, .int (nI k)), (2, .long (lN S)), (4, .long (lN La)), (6, .int (nI most))] := hl
  refine nw_loopW (σ := Nat × (Nat → Nat)) (fun x => match x with | (d, R1) => 1 ≤ d ∧ d ≤ most + 1 ∧ ∀ j, j < d → nw_RW xw y n k j (R1 j)) (fun x => match x with | (d, R1) => [(11, .int (nI d)), (9, .long (lN (2 ^ (n + 1) - 1))), (8, .ref (ry (k - 1))), (7, .ref (ry k)), (0, .ref h), (1, .int (nI k)), (2, .long (lN S)), (4, .long (lN La)), (6, .int (nI most))]) (fun x => match x with | (d, R1) => ([(h, .inr (2, [.ref aP, .ref aR, .int (nI n)])), (aR, nw_ar cG 61 (fun k => some (ry k)))] ++ (nw_rl 61 cJ 4 ry (va_up M k R1) ++ pl))) (fun x => match x with | (d, R1) => most + 1 - d) (fun x hI ih ls H locs hl hP hD hS => ?_) (1, va_up (M k) 0 ((M (k - 1) 0 &&& S) * 2 ^ 1)) (⟨Nat.le_refl _, by omega, fun j hj => by
    have e0 : j = 0 := by omega
    rw [e0, va_up_self]
    have e1 := nw_RW_z (x := xw) (y := y) (k := k - 1) (hM1 0 (Nat.zero_le _)) hS0
    rw [show k - 1 + 1 = k by omega] at e1
    exact e1⟩) hl hP hD hS
  obtain ⟨d, R1⟩ := x
  replace hI : 1 ≤ d ∧ d ≤ most + 1 ∧ ∀ j, j < d → nw_RW xw y n k j (R1 j) := hI
  replace hl : lv_has ls 20 [(11, .int (nI d)), (9, .long (lN (2 ^ (n + 1) - 1))), (8, .ref (ry (k - 1))), (7, .ref (ry k)), (0, .ref h), (1, .int (nI k)), (2, .long (lN S)), (4, .long (lN La)), (6, .int (nI most))] := hl
  replace hP : va_P (dC, dI) nw_cls ([(h, .inr (2, [.ref aP, .ref aR, .int (nI n)])), (aR, nw_ar cG 61 (fun k => some (ry k)))] ++ (nw_rl 61 cJ 4 ry (va_up M k R1) ++ pl)) H := hP
  replace hD : va_D A ([(h, .inr (2, [.ref aP, .ref aR, .int (nI n)])), (aR, nw_ar cG 61 (fun k => some (ry k)))] ++ (nw_rl 61 cJ 4 ry (va_up M k R1) ++ pl)) := hD
  obtain ⟨hd1, hd2, hR⟩ := hI
  refine lv_iload hx hb d_Met_extend_44 (lv_at hl 0 rfl) ?_
  refine lv_iload hx hb d_Met_extend_46 (lv_at hl 8 rfl) ?_
  refine lv_icmp_gt hx hb d_Met_extend_48 (tgt := 129) (by decide) (fun g1 => ?_) (fun g1 => ?_)
  · rw [nI_ltI (by omega) (by omega)] at g1
    exact W.vret hx hb hr (fun t ht hW => ⟨⟨R1, rfl, fun d hd => hR d (by omega), by rw [ht]; exact hP, hD⟩, hS.F ht⟩) hS.2.2 d_Met_extend_129
  · rw [nI_ltI (by omega) (by omega)] at g1
    have e1 : ∀ j, va_up M k R1 (k - 1) j = M (k - 1) j := fun j => by rw [va_up_ne _ _ (by omega)]
    have e0 : ∀ j, va_up M k R1 k j = R1 j := fun j => by rw [va_up_self]
    have q1 := hM1 d (by omega)
    have q2 := hM1 (d - 1) (by omega)
    have q3 := hR (d - 1) (by omega)
    have h64 := nw_64
    refine lv_aload hx hb d_Met_extend_51 (lv_at hl 2 rfl) ?_
    refine lv_iload hx hb d_Met_extend_53 (lv_at hl 0 rfl) ?_
    refine nw_rlld hx hb hK (k := (k - 1)) (d := d) hP 1 rfl (by omega) (by omega) (by decide) d_Met_extend_55 ?_
    refine nw_tl (y := lN (M (k - 1) d)) (congrArg lN (e1 d)) ?_
    refine lv_lload_n hx hb d_Met_extend_56 rfl (lv_at hl 6 rfl) ?_
    refine lv_land hx hb d_Met_extend_57 ?_
    refine lv_iconst (v := nI 1) hx hb d_Met_extend_58 (by decide) ?_
    refine lv_lshl (v := lN ((M (k - 1) d &&& S) * 2 ^ 1)) hx hb d_Met_extend_59 (nw_keL q1.1 hb60) ?_
    refine lv_lstore hx hb d_Met_extend_60 hl (by decide) rfl (fun ls hl => ?_)
    replace hl : lv_has ls 20 [(12, .long (lN ((M (k - 1) d &&& S) * 2 ^ 1))), (11, .int (nI d)), (9, .long (lN (2 ^ (n + 1) - 1))), (8, .ref (ry (k - 1))), (7, .ref (ry k)), (0, .ref h), (1, .int (nI k)), (2, .long (lN S)), (4, .long (lN La)), (6, .int (nI most))] := hl
    refine lv_aload hx hb d_Met_extend_62 (lv_at hl 3 rfl) ?_
    refine lv_iload hx hb d_Met_extend_64 (lv_at hl 1 rfl) ?_
    refine lv_iconst (v := nI 1) hx hb d_Met_extend_66 (by decide) ?_
    refine lv_isub hx hb d_Met_extend_67 ?_
    refine nw_ti (pk_sub (a := d) (b := 1) (by omega)) ?_
    refine nw_rlld hx hb hK (k := (k - 1)) (d := (d - 1)) hP 1 rfl (by omega) (by omega) (by decide) d_Met_extend_68 ?_
    refine nw_tl (y := lN (M (k - 1) (d - 1))) (congrArg lN (e1 _)) ?_
    refine lv_lstore hx hb d_Met_extend_69 hl (by decide) rfl (fun ls hl => ?_)
    replace hl : lv_has ls 20 [(14, .long (lN (M (k - 1) (d - 1)))), (12, .long (lN ((M (k - 1) d &&& S) * 2 ^ 1))), (11, .int (nI d)), (9, .long (lN (2 ^ (n + 1) - 1))), (8, .ref (ry (k - 1))), (7, .ref (ry k)), (0, .ref h), (1, .int (nI k)), (2, .long (lN S)), (4, .long (lN La)), (6, .int (nI most))] := hl
    refine lv_aload hx hb d_Met_extend_71 (lv_at hl 5 rfl) ?_
    refine lv_iload hx hb d_Met_extend_73 (lv_at hl 2 rfl) ?_
    refine lv_iconst (v := nI 1) hx hb d_Met_extend_75 (by decide) ?_
    refine lv_isub hx hb d_Met_extend_76 ?_
    refine nw_ti (pk_sub (a := d) (b := 1) (by omega)) ?_
    refine nw_rlld hx hb hK (k := k) (d := (d - 1)) hP 1 rfl (by omega) (by omega) (by decide) d_Met_extend_77 ?_
    refine nw_tl (y := lN (R1 (d - 1))) (congrArg lN (e0 _)) ?_
    refine lv_iconst (v := nI 1) hx hb d_Met_extend_78 (by decide) ?_
    refine lv_lshl (v := lN (R1 (d - 1) * 2 ^ 1)) hx hb d_Met_extend_79 (wb_shl _ (by decide)) ?_
    refine lv_lstore hx hb d_Met_extend_80 hl (by decide) rfl (fun ls hl => ?_)
    replace hl : lv_has ls 20 [(16, .long (lN (R1 (d - 1) * 2 ^ 1))), (14, .long (lN (M (k - 1) (d - 1)))), (12, .long (lN ((M (k - 1) d &&& S) * 2 ^ 1))), (11, .int (nI d)), (9, .long (lN (2 ^ (n + 1) - 1))), (8, .ref (ry (k - 1))), (7, .ref (ry k)), (0, .ref h), (1, .int (nI k)), (2, .long (lN S)), (4, .long (lN La)), (6, .int (nI most))] := hl
    refine lv_aload hx hb d_Met_extend_82 (lv_at hl 5 rfl) ?_
    refine lv_iload hx hb d_Met_extend_84 (lv_at hl 3 rfl) ?_
    refine lv_iconst (v := nI 1) hx hb d_Met_extend_86 (by decide) ?_
    refine lv_isub hx hb d_Met_extend_87 ?_
    refine nw_ti (pk_sub (a := d) (b := 1) (by omega)) ?_
    refine nw_rlld hx hb hK (k := (k - 1)) (d := (d - 1)) hP 1 rfl (by omega) (by omega) (by decide) d_Met_extend_88 ?_
    refine nw_tl (y := lN (M (k - 1) (d - 1))) (congrArg lN (e1 _)) ?_
    refine lv_iconst (v := nI 1) hx hb d_Met_extend_89 (by decide) ?_
    refine lv_lshl (v := lN (M (k - 1) (d - 1) * 2 ^ 1)) hx hb d_Met_extend_90 (wb_shl _ (by decide)) ?_
    refine lv_lstore hx hb d_Met_extend_91 hl (by decide) rfl (fun ls hl => ?_)
    replace hl : lv_has ls 20 [(18, .long (lN (M (k - 1) (d - 1) * 2 ^ 1))), (16, .long (lN (R1 (d - 1) * 2 ^ 1))), (14, .long (lN (M (k - 1) (d - 1)))), (12, .long (lN ((M (k - 1) d &&& S) * 2 ^ 1))), (11, .int (nI d)), (9, .long (lN (2 ^ (n + 1) - 1))), (8, .ref (ry (k - 1))), (7, .ref (ry k)), (0, .ref h), (1, .int (nI k)), (2, .long (lN S)), (4, .long (lN La)), (6, .int (nI most))] := hl
    refine lv_aload hx hb d_Met_extend_93 (lv_at hl 7 rfl) ?_
    refine lv_iload hx hb d_Met_extend_95 (lv_at hl 4 rfl) ?_
    refine lv_lload hx hb d_Met_extend_97 (lv_at hl 3 rfl) ?_
    refine lv_lload hx hb d_Met_extend_99 (lv_at hl 2 rfl) ?_
    refine lv_lor hx hb d_Met_extend_101 ?_
    refine lv_lload hx hb d_Met_extend_102 (lv_at hl 1 rfl) ?_
    refine lv_lor hx hb d_Met_extend_104 ?_
    refine lv_lload hx hb d_Met_extend_105 (lv_at hl 0 rfl) ?_
    refine lv_lor hx hb d_Met_extend_107 ?_
    refine lv_aload_n hx hb d_Met_extend_108 rfl (lv_at hl 8 rfl) ?_
    refine lv_iload_n hx hb d_Met_extend_109 rfl (lv_at hl 9 rfl) ?_
    refine lv_iload hx hb d_Met_extend_110 (lv_at hl 4 rfl) ?_
    refine lv_lload_n hx hb d_Met_extend_112 rfl (lv_at hl 10 rfl) ?_
    refine lv_lload hx hb d_Met_extend_113 (lv_at hl 11 rfl) ?_
    refine vp_callSl (va_Run.run (va_runV (As := [.int (nI k), .int (nI d), .long (lN S), .long (lN La)]) (rest := [.long ((((lN ((M (k - 1) d &&& S) * 2 ^ 1)) ||| (lN (M (k - 1) (d - 1)))) ||| (lN (R1 (d - 1) * 2 ^ 1))) ||| (lN (M (k - 1) (d - 1) * 2 ^ 1))), .int (nI d), .ref (ry k)]) ⟨hx, hb, hml, hown, hts⟩ (c_Met_swapped l dC dI cG cJ h aP aR n ry (va_up M k R1) pl k d S La hk ⟨hd1, by omega⟩ hb60 hLa (fun h2 => by rw [va_up_ne _ _ (by omega)]; exact ((hM2 h2).2 (d - 1) (by omega)).1)) (cwV (C := R_Met) 4 hts (nw_GV (nw_m 257 rfl) (nw_m 258 rfl) (nw_m 259 rfl) (nw_m 30 rfl) (nw_m 260 rfl)) rfl rfl rfl (by decide +kernel) ⟨Nat.le_of_ble_eq_true rfl, Nat.le_of_ble_eq_true rfl⟩) (nw_preVP (q0 := 0) (ci := 2) (q := (R_Met, F_Met, 3)) hK hP [0, 1] [0, 1] rfl rfl rfl rfl) rfl rfl hl.1 rfl (lv_room (Nat.le_of_ble_eq_true rfl)) d_Met_extend_115 ⟨Nat.le_of_ble_eq_true rfl, Nat.le_of_ble_eq_true rfl⟩)) (fun r her => ?_)
    subst her
    refine nw_tl (y := lN (if k < 2 then 0 else ((M (k - 2) (d - 1) &&& S) * 2 ^ 1 &&& La) * 2 ^ 1)) (congrArg lN (by
      by_cases h2 : k < 2
      · rw [if_pos h2, if_pos h2]
      · rw [if_neg h2, if_neg h2, va_up_ne _ _ (by omega)])) ?_
    have hsw : nw_SWP xw y n (k - 1) (d - 1) (if k < 2 then 0 else ((M (k - 2) (d - 1) &&& S) * 2 ^ 1 &&& La) * 2 ^ 1) := by
      by_cases h2 : k < 2
      · rw [if_pos h2, show k - 1 = 0 by omega]; exact nw_SWP_0
      · obtain ⟨p1, p2⟩ := hM2 (by omega)
        rw [if_neg h2]
        have p3 := nw_SWP_s (x := xw) (y := y) (k := k - 2) (p2 (d - 1) (by omega)) (by rw [show k - 2 + 1 = k - 1 by omega]; exact hS0) p1
        rw [show k - 2 + 1 = k - 1 by omega] at p3
        exact p3
    have g62 : (2 : Nat) ^ 62 = 2 ^ 61 * 2 := by decide
    have gm : (2 : Nat) ^ (n + 1) ≤ 2 ^ 61 := Nat.pow_le_pow_right (by decide) (by omega)
    have ga : M (k - 1) d &&& S < 2 ^ 60 := nw_and_lt hb60
    have gb := q2.1
    have gc := q3.1
    have gs := hsw.1
    have g60 : (2 : Nat) ^ 61 = 2 ^ 60 * 2 := by decide
    refine lv_lor hx hb d_Met_extend_118 ?_
    refine lv_lload hx hb d_Met_extend_119 (lv_at hl 5 rfl) ?_
    refine lv_land hx hb d_Met_extend_121 ?_
    refine nw_tl (y := lN (((((((M (k - 1) d &&& S) * 2 ^ 1) ||| (M (k - 1) (d - 1))) ||| (R1 (d - 1) * 2 ^ 1)) ||| (M (k - 1) (d - 1) * 2 ^ 1)) ||| (if k < 2 then 0 else ((M (k - 2) (d - 1) &&& S) * 2 ^ 1 &&& La) * 2 ^ 1)) &&& (2 ^ (n + 1) - 1))) (nw_exL (by omega) (by omega) (by omega) (by omega) (by omega) (by omega)) ?_
    refine nw_rlst hx hb hK (k := k) (d := d) (v := (((((((M (k - 1) d &&& S) * 2 ^ 1) ||| (M (k - 1) (d - 1))) ||| (R1 (d - 1) * 2 ^ 1)) ||| (M (k - 1) (d - 1) * 2 ^ 1)) ||| (if k < 2 then 0 else ((M (k - 2) (d - 1) &&& S) * 2 ^ 1 &&& La) * 2 ^ 1)) &&& (2 ^ (n + 1) - 1))) hP hD hS 1 rfl (by omega) (by omega) (by decide) d_Met_extend_122 (fun H locs hP hD hS => ?_)
    replace hP : va_P (dC, dI) nw_cls ([(h, .inr (2, [.ref aP, .ref aR, .int (nI n)])), (aR, nw_ar cG 61 (fun k => some (ry k)))] ++ (nw_rl 61 cJ 4 ry (va_up (va_up M k R1) k (va_up ((va_up M k R1) k) d (((((((M (k - 1) d &&& S) * 2 ^ 1) ||| (M (k - 1) (d - 1))) ||| (R1 (d - 1) * 2 ^ 1)) ||| (M (k - 1) (d - 1) * 2 ^ 1)) ||| (if k < 2 then 0 else ((M (k - 2) (d - 1) &&& S) * 2 ^ 1 &&& La) * 2 ^ 1)) &&& (2 ^ (n + 1) - 1)))) ++ pl)) H := hP
    replace hD : va_D A ([(h, .inr (2, [.ref aP, .ref aR, .int (nI n)])), (aR, nw_ar cG 61 (fun k => some (ry k)))] ++ (nw_rl 61 cJ 4 ry (va_up (va_up M k R1) k (va_up ((va_up M k R1) k) d (((((((M (k - 1) d &&& S) * 2 ^ 1) ||| (M (k - 1) (d - 1))) ||| (R1 (d - 1) * 2 ^ 1)) ||| (M (k - 1) (d - 1) * 2 ^ 1)) ||| (if k < 2 then 0 else ((M (k - 2) (d - 1) &&& S) * 2 ^ 1 &&& La) * 2 ^ 1)) &&& (2 ^ (n + 1) - 1)))) ++ pl)) := hD
    rw [nw_up2] at hP hD
    replace hP : va_P (dC, dI) nw_cls ([(h, .inr (2, [.ref aP, .ref aR, .int (nI n)])), (aR, nw_ar cG 61 (fun k => some (ry k)))] ++ (nw_rl 61 cJ 4 ry (va_up M k (va_up R1 d (((((((M (k - 1) d &&& S) * 2 ^ 1) ||| (M (k - 1) (d - 1))) ||| (R1 (d - 1) * 2 ^ 1)) ||| (M (k - 1) (d - 1) * 2 ^ 1)) ||| (if k < 2 then 0 else ((M (k - 2) (d - 1) &&& S) * 2 ^ 1 &&& La) * 2 ^ 1)) &&& (2 ^ (n + 1) - 1)))) ++ pl)) H := hP
    replace hD : va_D A ([(h, .inr (2, [.ref aP, .ref aR, .int (nI n)])), (aR, nw_ar cG 61 (fun k => some (ry k)))] ++ (nw_rl 61 cJ 4 ry (va_up M k (va_up R1 d (((((((M (k - 1) d &&& S) * 2 ^ 1) ||| (M (k - 1) (d - 1))) ||| (R1 (d - 1) * 2 ^ 1)) ||| (M (k - 1) (d - 1) * 2 ^ 1)) ||| (if k < 2 then 0 else ((M (k - 2) (d - 1) &&& S) * 2 ^ 1 &&& La) * 2 ^ 1)) &&& (2 ^ (n + 1) - 1)))) ++ pl)) := hD
    have hnew : nw_RW xw y n k d (((((((M (k - 1) d &&& S) * 2 ^ 1) ||| (M (k - 1) (d - 1))) ||| (R1 (d - 1) * 2 ^ 1)) ||| (M (k - 1) (d - 1) * 2 ^ 1)) ||| (if k < 2 then 0 else ((M (k - 2) (d - 1) &&& S) * 2 ^ 1 &&& La) * 2 ^ 1)) &&& (2 ^ (n + 1) - 1)) := by
      have p4 := nw_RW_s (x := xw) (y := y) (k := k - 1) (d := d - 1) hn (by rw [show d - 1 + 1 = d by omega]; exact q1) q2 (by rw [show k - 1 + 1 = k by omega]; exact q3) hS0 hsw
      rw [show k - 1 + 1 = k by omega, show d - 1 + 1 = d by omega] at p4
      exact p4
    refine lv_iinc (v := nI (d + 1)) hx hb d_Met_extend_123 hl (k := 4) rfl (nI_add d 1) (by decide) rfl (fun ls hl => ?_)
    have hl : lv_has ls 20 [(11, .int (nI (d + 1))), (18, .long (lN (M (k - 1) (d - 1) * 2 ^ 1))), (16, .long (lN (R1 (d - 1) * 2 ^ 1))), (14, .long (lN (M (k - 1) (d - 1)))), (12, .long (lN ((M (k - 1) d &&& S) * 2 ^ 1))), (9, .long (lN (2 ^ (n + 1) - 1))), (8, .ref (ry (k - 1))), (7, .ref (ry k)), (0, .ref h), (1, .int (nI k)), (2, .long (lN S)), (4, .long (lN La)), (6, .int (nI most))] := hl
    refine lv_goto hx hb d_Met_extend_126 (tgt := 44) (by decide) ?_
    exact ih (d + 1, va_up R1 d (((((((M (k - 1) d &&& S) * 2 ^ 1) ||| (M (k - 1) (d - 1))) ||| (R1 (d - 1) * 2 ^ 1)) ||| (M (k - 1) (d - 1) * 2 ^ 1)) ||| (if k < 2 then 0 else ((M (k - 2) (d - 1) &&& S) * 2 ^ 1 &&& La) * 2 ^ 1)) &&& (2 ^ (n + 1) - 1))) (⟨by omega, by omega, fun j hj => by
      by_cases e : j = d
      · rw [e, va_up_self]; exact hnew
      · rw [va_up_ne _ _ e]; exact hR j (by omega)⟩) (show most + 1 - (d + 1) < most + 1 - d by omega) _ _ _ (lv_sub hl [0, 5, 6, 7, 8, 9, 10, 11, 12] rfl) hP hD hS

set_option maxHeartbeats 4000000 in
set_option maxRecDepth 100000 in
theorem c_Met_aimAt (l : Launch) (dC : Nat → ClassId) (dI : Nat → Nat → Nat) (sz : Nat) (cB cJ : ClassId) (h aP aR n : Nat) (P : Nat → Nat) (h2 a2 n2 : Nat) (c2 : Nat → Nat) (hn : n2 ≤ 60) (hc : ∀ j, c2 j < 127) : Met l y_Met_aimAt w_Met_aimAt ({ frames := 1, cells := 0, slots := 0, locals := 24 }) (nw_Pw [.ref h, .ref h2] (dC, dI) nw_cls [(cB, .byte), (cJ, .long)] [(h, .inr (2, [.ref aP, .ref aR, .int (nI n)])), (aP, nw_al cJ 127 P), (h2, .inr (6, [.ref a2, .int (nI n2)])), (a2, nw_ai cB 60 c2)] sz) (va_Qv (fun u : Nat → Nat => ∀ ch, ch < 127 → nw_PL c2 n2 ch (u ch)) (nw_B (dC, dI) nw_cls (va_A [(h, .inr (2, [.ref aP, .ref aR, .int (nI n)])), (aP, nw_al cJ 127 P), (h2, .inr (6, [.ref a2, .int (nI n2)])), (a2, nw_ai cB 60 c2)] sz) (fun u => [(h, .inr (2, [.ref aP, .ref aR, .int (nI n2)])), (aP, nw_al cJ 127 u), (h2, .inr (6, [.ref a2, .int (nI n2)])), (a2, nw_ai cB 60 c2)])) (va_A [(h, .inr (2, [.ref aP, .ref aR, .int (nI n)])), (aP, nw_al cJ 127 P), (h2, .inr (6, [.ref a2, .int (nI n2)])), (a2, nw_ai cB 60 c2)] sz)) 0 0 (va_A [(h, .inr (2, [.ref aP, .ref aR, .int (nI n)])), (aP, nw_al cJ 127 P), (h2, .inr (6, [.ref a2, .int (nI n2)])), (a2, nw_ai cB 60 c2)] sz) := by
  refine Met.ofW (cc := b_Met_aimAt) (maxL := 3) (ret := none) (by decide) rfl ?_
  intro p e s m args below meth cd s₁ B hml hv0
  obtain ⟨rfl, hsz, hP, hK, hD0⟩ := hv0
  have hx := B.exec
  have hb := B.bytes
  have hr := B.returns
  have hts := atoms_spec (ws := w_Met_aimAt) B.pre
  have hown : s.vm.findClass R_Met = some m.cls := findClass_of_methodNamed B.named
  have hlocks := B.notSynchronized
  subst hsz
  have hD := hD0.self (sz := s.heap.size)
  generalize hAe : va_A [(h, .inr (2, [.ref aP, .ref aR, .int (nI n)])), (aP, nw_al cJ 127 P), (h2, .inr (6, [.ref a2, .int (nI n2)])), (a2, nw_ai cB 60 c2)] s.heap.size = A at hD ⊢
  have hA : ∀ q : Nat, s.heap.size ≤ q → A q := fun q h => by rw [← hAe]; exact Or.inr h
  have hS : va_S A s.heap s.heap [] := va_S.rf
  have hl := lv_entry ([.ref h, .ref h2]) (n := 3) (Nat.le_of_ble_eq_true rfl)
  rw [lg_entry_eq]
  generalize (lg_sl ([.ref h, .ref h2]) ++ List.replicate (3 - (lg_sl ([.ref h, .ref h2])).length) Slot.unset).toArray = ls at hl ⊢
  have hl : lv_has ls 3 [(0, .ref h), (1, .ref h2)] := hl
  refine lv_aload_n hx hb d_Met_aimAt_0 rfl (lv_at hl 0 rfl) ?_
  refine va_get (D := (dC, dI)) (ci := 2) (v := .ref aP) (C := R_Met) (T := F_Met) (N := 3) hx hb hts hin_Met hown hK hP 0 rfl rfl 0 (by decide) (hts _ (nw_mc 226 rfl)) (fun _ h9 => h9) rfl d_Met_aimAt_1 ?_
  refine lv_lconst (v := lN 0) hx hb d_Met_aimAt_4 (by decide) ?_
  refine nw_callv (wc := [(aP, nw_al cJ 127 P)]) (wr := [(h, .inr (2, [.ref aP, .ref aR, .int (nI n)])), (h2, .inr (6, [.ref a2, .int (nI n2)])), (a2, nw_ai cB 60 c2)]) hP hD hS hA [1] [0, 2, 3] rfl rfl (by decide) (by decide) (va_runS (As := [.ref aP, .long (lN 0)]) (rest := []) ⟨hx, hb, hml, hown, hts⟩ (c_Arr_fillJ l dC dI _ cJ aP 127 P 0 (by decide)) (va_cwS 2 hts (nw_GT (nw_m 232 rfl) (nw_m 233 rfl) (nw_m 234 rfl) (nw_m 235 rfl)) rfl rfl rfl (by decide +kernel) ⟨Nat.le_of_ble_eq_true rfl, Nat.le_of_ble_eq_true rfl⟩) (nw_prewS hK hP hD [1] [1] (by decide) rfl rfl) rfl rfl hl.1 rfl (lv_room (Nat.le_of_ble_eq_true rfl)) d_Met_aimAt_5 ⟨Nat.le_of_ble_eq_true rfl, Nat.le_of_ble_eq_true rfl⟩) (fun _ H locs hw hP hD hS => ?_)
  replace hP : va_P (dC, dI) nw_cls [(h, .inr (2, [.ref aP, .ref aR, .int (nI n)])), (h2, .inr (6, [.ref a2, .int (nI n2)])), (a2, nw_ai cB 60 c2), (aP, nw_al cJ 127 (nw_fl 127 0 P))] H := hP
  replace hD : va_D A [(h, .inr (2, [.ref aP, .ref aR, .int (nI n)])), (h2, .inr (6, [.ref a2, .int (nI n2)])), (a2, nw_ai cB 60 c2), (aP, nw_al cJ 127 (nw_fl 127 0 P))] := hD
  have hP := hP.sub (ws' := [(h, .inr (2, [.ref aP, .ref aR, .int (nI n)])), (aP, nw_al cJ 127 (nw_fl 127 0 P)), (h2, .inr (6, [.ref a2, .int (nI n2)])), (a2, nw_ai cB 60 c2)]) [0, 3, 1, 2] rfl
  have hD := hD.sub (ws' := [(h, .inr (2, [.ref aP, .ref aR, .int (nI n)])), (aP, nw_al cJ 127 (nw_fl 127 0 P)), (h2, .inr (6, [.ref a2, .int (nI n2)])), (a2, nw_ai cB 60 c2)]) [0, 3, 1, 2] (by decide) rfl
  refine lv_aload_n hx hb d_Met_aimAt_8 rfl (lv_at hl 0 rfl) ?_
  refine lv_aload_n hx hb d_Met_aimAt_9 rfl (lv_at hl 1 rfl) ?_
  refine vp_callSi (va_Run.run (va_runV (As := []) (rest := [.ref h]) ⟨hx, hb, hml, hown, hts⟩ (c_Row_length l dC dI h2 a2 n2) (cwV (C := R_Row) 0 hts (nw_GV (nw_m 236 rfl) (nw_m 48 rfl) (nw_m 49 rfl) (nw_m 5 rfl) (nw_m 50 rfl)) rfl rfl rfl (by decide +kernel) ⟨Nat.le_of_ble_eq_true rfl, Nat.le_of_ble_eq_true rfl⟩) (nw_preV (q0 := 2) (ci := 6) (q := (R_Row, F_Row, 2)) hK hP [2] [] rfl rfl rfl rfl) rfl rfl hl.1 rfl (lv_room (Nat.le_of_ble_eq_true rfl)) d_Met_aimAt_10 ⟨Nat.le_of_ble_eq_true rfl, Nat.le_of_ble_eq_true rfl⟩)) (fun r her => ?_)
  subst her
  refine va_put (D := (dC, dI)) (ci := 2) (v := .int (nI n2)) (ty := .int) (C := R_Met) (T := F_Met) (N := 3) hx hb hts hin_Met t_Met t_Met_ok n_Met hown hK hP hD hS 0 rfl rfl 2 (by decide) (hts _ (nw_mc 228 rfl)) (fun _ h9 => h9) rfl (by decide +kernel) rfl rfl (Nat.le_of_ble_eq_true rfl) d_Met_aimAt_13 (fun H locs hP hD hS => ?_)
  replace hP : va_P (dC, dI) nw_cls [(h, .inr (2, [.ref aP, .ref aR, .int (nI n2)])), (aP, nw_al cJ 127 (nw_fl 127 0 P)), (h2, .inr (6, [.ref a2, .int (nI n2)])), (a2, nw_ai cB 60 c2)] H := hP
  replace hD : va_D A [(h, .inr (2, [.ref aP, .ref aR, .int (nI n2)])), (aP, nw_al cJ 127 (nw_fl 127 0 P)), (h2, .inr (6, [.ref a2, .int (nI n2)])), (a2, nw_ai cB 60 c2)] := hD
  refine lv_iconst (v := nI 0) hx hb d_Met_aimAt_16 (by decide) ?_
  refine lv_istore_n hx hb d_Met_aimAt_17 rfl hl (by decide) rfl (fun ls hl => ?_)
  replace hl : lv_has ls 3 [(2, .int (nI 0)), (0, .ref h), (1, .ref h2)] := hl
  refine nw_loopW (σ := Nat × (Nat → Nat)) (fun x => match x with | (p, g) => p ≤ n2 ∧ ∀ ch, ch < 127 → nw_PL c2 p ch (g ch)) (fun x => match x with | (p, g) => [(2, .int (nI p)), (1, .ref h2), (0, .ref h)]) (fun x => match x with | (p, g) => [(h, .inr (2, [.ref aP, .ref aR, .int (nI n2)])), (aP, nw_al cJ 127 g), (h2, .inr (6, [.ref a2, .int (nI n2)])), (a2, nw_ai cB 60 c2)]) (fun x => match x with | (p, g) => n2 - p) (fun x hI ih ls H locs hl hP hD hS => ?_) (0, nw_fl 127 0 P) (⟨Nat.zero_le _, fun ch hch => by unfold nw_fl; rw [if_pos hch]; exact nw_PL_0⟩) (lv_sub hl [0, 2, 1] rfl) hP hD hS
  obtain ⟨p, g⟩ := x
  replace hI : p ≤ n2 ∧ ∀ ch, ch < 127 → nw_PL c2 p ch (g ch) := hI
  replace hl : lv_has ls 3 [(2, .int (nI p)), (1, .ref h2), (0, .ref h)] := hl
  replace hP : va_P (dC, dI) nw_cls [(h, .inr (2, [.ref aP, .ref aR, .int (nI n2)])), (aP, nw_al cJ 127 g), (h2, .inr (6, [.ref a2, .int (nI n2)])), (a2, nw_ai cB 60 c2)] H := hP
  replace hD : va_D A [(h, .inr (2, [.ref aP, .ref aR, .int (nI n2)])), (aP, nw_al cJ 127 g), (h2, .inr (6, [.ref a2, .int (nI n2)])), (a2, nw_ai cB 60 c2)] := hD
  obtain ⟨hp, hg⟩ := hI
  refine lv_iload_n hx hb d_Met_aimAt_18 rfl (lv_at hl 0 rfl) ?_
  refine lv_aload_n hx hb d_Met_aimAt_19 rfl (lv_at hl 2 rfl) ?_
  refine va_get (D := (dC, dI)) (ci := 2) (v := .int (nI n2)) (C := R_Met) (T := F_Met) (N := 3) hx hb hts hin_Met hown hK hP 0 rfl rfl 2 (by decide) (hts _ (nw_mc 228 rfl)) (fun _ h9 => h9) rfl d_Met_aimAt_20 ?_
  refine lv_icmp_ge hx hb d_Met_aimAt_23 (tgt := 48) (by decide) (fun g1 => ?_) (fun g1 => ?_)
  · rw [nI_leI (by omega) (by omega)] at g1
    have hpn : p = n2 := by omega
    subst hpn
    exact W.vret hx hb hr (fun t ht hW => ⟨⟨g, rfl, hg, by rw [ht]; exact hP, hD⟩, hS.F ht⟩) hS.2.2 d_Met_aimAt_48
  · rw [nI_leI (by omega) (by omega)] at g1
    refine lv_aload_n hx hb d_Met_aimAt_26 rfl (lv_at hl 2 rfl) ?_
    refine va_get (D := (dC, dI)) (ci := 2) (v := .ref aP) (C := R_Met) (T := F_Met) (N := 3) hx hb hts hin_Met hown hK hP 0 rfl rfl 0 (by decide) (hts _ (nw_mc 226 rfl)) (fun _ h9 => h9) rfl d_Met_aimAt_27 ?_
    refine lv_aload_n hx hb d_Met_aimAt_30 rfl (lv_at hl 1 rfl) ?_
    refine lv_iload_n hx hb d_Met_aimAt_31 rfl (lv_at hl 0 rfl) ?_
    refine vp_callSi (va_Run.run (va_runV (As := [.int (nI p)]) (rest := [.ref aP]) ⟨hx, hb, hml, hown, hts⟩ (c_Row_at l dC dI cB h2 a2 n2 c2 p (by omega)) (cwV (C := R_Row) 1 hts (nw_GV (nw_m 237 rfl) (nw_m 238 rfl) (nw_m 239 rfl) (nw_m 5 rfl) (nw_m 240 rfl)) rfl rfl rfl (by decide +kernel) ⟨Nat.le_of_ble_eq_true rfl, Nat.le_of_ble_eq_true rfl⟩) (nw_preV (q0 := 2) (ci := 6) (q := (R_Row, F_Row, 2)) hK hP [2, 3] [0] rfl rfl rfl rfl) rfl rfl hl.1 rfl (lv_room (Nat.le_of_ble_eq_true rfl)) d_Met_aimAt_32 ⟨Nat.le_of_ble_eq_true rfl, Nat.le_of_ble_eq_true rfl⟩)) (fun r her => ?_)
    subst her
    have hcp := hc p
    refine lv_dup2_11 hx hb d_Met_aimAt_35 rfl rfl ?_
    refine nw_lald hx hb hK hP 1 1 rfl rfl (k := (c2 p)) (by omega) (by first | decide | omega) d_Met_aimAt_36 ?_
    refine lv_lconst (v := lN 1) hx hb d_Met_aimAt_37 (by decide) ?_
    refine lv_iload_n hx hb d_Met_aimAt_38 rfl (lv_at hl 0 rfl) ?_
    refine lv_lshl (v := lN (2 ^ p)) hx hb d_Met_aimAt_39 (nw_sh1 (by omega)) ?_
    refine lv_lor hx hb d_Met_aimAt_40 ?_
    refine nw_tl (y := lN (g (c2 p) ||| 2 ^ p)) (nw_orL (Nat.lt_trans (hg _ hcp).1 (by decide)) (by omega)) ?_
    refine nw_last hx hb hK hP hD hS 1 1 rfl rfl (k := (c2 p)) (v := (g (c2 p) ||| 2 ^ p)) (by omega) (by first | decide | omega) d_Met_aimAt_41 (fun H locs hP hD hS => ?_)
    replace hP : va_P (dC, dI) nw_cls [(h, .inr (2, [.ref aP, .ref aR, .int (nI n2)])), (aP, nw_al cJ 127 (va_up g (c2 p) (g (c2 p) ||| 2 ^ p))), (h2, .inr (6, [.ref a2, .int (nI n2)])), (a2, nw_ai cB 60 c2)] H := hP
    replace hD : va_D A [(h, .inr (2, [.ref aP, .ref aR, .int (nI n2)])), (aP, nw_al cJ 127 (va_up g (c2 p) (g (c2 p) ||| 2 ^ p))), (h2, .inr (6, [.ref a2, .int (nI n2)])), (a2, nw_ai cB 60 c2)] := hD
    refine lv_iinc (v := nI (p + 1)) hx hb d_Met_aimAt_42 hl (k := 0) rfl (nI_add p 1) (by decide) rfl (fun ls hl => ?_)
    have hl : lv_has ls 3 [(2, .int (nI (p + 1))), (1, .ref h2), (0, .ref h)] := hl
    refine lv_goto hx hb d_Met_aimAt_45 (tgt := 18) (by decide) ?_
    exact ih (p + 1, va_up g (c2 p) (g (c2 p) ||| 2 ^ p)) (⟨by omega, nw_PL_s (by omega) hg⟩) (show n2 - (p + 1) < n2 - p by omega) _ _ _ hl hP hD hS

set_option maxHeartbeats 4000000 in
set_option maxRecDepth 100000 in
theorem c_Met_stepsTo (l : Launch) (dC : Nat → ClassId) (dI : Nat → Nat → Nat) (sz : Nat) (cB cI : ClassId) (cG cJ : ClassId) (h aP aR n : Nat) (ry : Nat → Nat) (M : Nat → Nat → Nat) (pl : va_W) (P : Nat → Nat) (h1 a1 b1 n1 : Nat) (C st : Nat → Nat) (i most : Nat) (y : Nat → Nat) (hn : n ≤ 60) (hm : most ≤ 3) (hi : i < 1000) (hst : st i ≤ st (i + 1) ∧ st (i + 1) ≤ 12000 ∧ st (i + 1) - st i ≤ 60) (hC : ∀ j, C j < 127) (hPL : ∀ ch, ch < 127 → nw_PL y n ch (P ch)) (hM0 : ∀ d, d ≤ 3 → M 0 d = 2 ^ (d + 1) - 1) : Met l y_Met_stepsTo w_Met_stepsTo ({ frames := 2, cells := 0, slots := 0, locals := 67 }) (nw_Pw [.ref h, .ref h1, .int (nI i), .int (nI most)] (dC, dI) nw_cls [(cB, .byte), (cI, .int), (cG, (.array .long)), (cJ, .long)] ([(h, .inr (2, [.ref aP, .ref aR, .int (nI n)])), (aP, nw_al cJ 127 P), (aR, nw_ar cG 61 (fun k => some (ry k))), (h1, .inr (7, [.ref a1, .ref b1, .int (nI n1)])), (a1, nw_ai cB 12000 C), (b1, nw_ai cI 1001 st)] ++ (nw_rl 61 cJ 4 ry M ++ pl)) sz) (va_Qi (fun (r : Int32) (u : Nat → Nat → Nat) => r = nw_sr (nw_D (fun k => C (st i + k)) y (st (i + 1) - st i) n) most ∧ ∀ d, d ≤ 3 → u 0 d = 2 ^ (d + 1) - 1) (nw_B (dC, dI) nw_cls (va_A ([(h, .inr (2, [.ref aP, .ref aR, .int (nI n)])), (aP, nw_al cJ 127 P), (aR, nw_ar cG 61 (fun k => some (ry k))), (h1, .inr (7, [.ref a1, .ref b1, .int (nI n1)])), (a1, nw_ai cB 12000 C), (b1, nw_ai cI 1001 st)] ++ (nw_rl 61 cJ 4 ry M ++ pl)) sz) (fun u => ([(h, .inr (2, [.ref aP, .ref aR, .int (nI n)])), (aP, nw_al cJ 127 P), (aR, nw_ar cG 61 (fun k => some (ry k))), (h1, .inr (7, [.ref a1, .ref b1, .int (nI n1)])), (a1, nw_ai cB 12000 C), (b1, nw_ai cI 1001 st)] ++ (nw_rl 61 cJ 4 ry u ++ pl)))) (va_A ([(h, .inr (2, [.ref aP, .ref aR, .int (nI n)])), (aP, nw_al cJ 127 P), (aR, nw_ar cG 61 (fun k => some (ry k))), (h1, .inr (7, [.ref a1, .ref b1, .int (nI n1)])), (a1, nw_ai cB 12000 C), (b1, nw_ai cI 1001 st)] ++ (nw_rl 61 cJ 4 ry M ++ pl)) sz)) 0 0 (va_A ([(h, .inr (2, [.ref aP, .ref aR, .int (nI n)])), (aP, nw_al cJ 127 P), (aR, nw_ar cG 61 (fun k => some (ry k))), (h1, .inr (7, [.ref a1, .ref b1, .int (nI n1)])), (a1, nw_ai cB 12000 C), (b1, nw_ai cI 1001 st)] ++ (nw_rl 61 cJ 4 ry M ++ pl)) sz) := by
  refine Met.ofW (cc := b_Met_stepsTo) (maxL := 8) (ret := (some .int)) (by decide) rfl ?_
  intro p e s m args below meth cd s₁ B hml hv0
  obtain ⟨rfl, hsz, hP, hK, hD0⟩ := hv0
  have hx := B.exec
  have hb := B.bytes
  have hr := B.returns
  have hts := atoms_spec (ws := w_Met_stepsTo) B.pre
  have hown : s.vm.findClass R_Met = some m.cls := findClass_of_methodNamed B.named
  have hlocks := B.notSynchronized
  subst hsz
  have hD := hD0.self (sz := s.heap.size)
  generalize hAe : va_A ([(h, .inr (2, [.ref aP, .ref aR, .int (nI n)])), (aP, nw_al cJ 127 P), (aR, nw_ar cG 61 (fun k => some (ry k))), (h1, .inr (7, [.ref a1, .ref b1, .int (nI n1)])), (a1, nw_ai cB 12000 C), (b1, nw_ai cI 1001 st)] ++ (nw_rl 61 cJ 4 ry M ++ pl)) s.heap.size = A at hD ⊢
  have hA : ∀ q : Nat, s.heap.size ≤ q → A q := fun q h => by rw [← hAe]; exact Or.inr h
  have hS : va_S A s.heap s.heap [] := va_S.rf
  have hl := lv_entry ([.ref h, .ref h1, .int (nI i), .int (nI most)]) (n := 8) (Nat.le_of_ble_eq_true rfl)
  rw [lg_entry_eq]
  generalize (lg_sl ([.ref h, .ref h1, .int (nI i), .int (nI most)]) ++ List.replicate (8 - (lg_sl ([.ref h, .ref h1, .int (nI i), .int (nI most)])).length) Slot.unset).toArray = ls at hl ⊢
  have hl : lv_has ls 8 [(0, .ref h), (1, .ref h1), (2, .int (nI i)), (3, .int (nI most))] := hl
  obtain ⟨hst1, hst2, hst3⟩ := hst
  refine lv_aload_n hx hb d_Met_stepsTo_0 rfl (lv_at hl 1 rfl) ?_
  refine lv_iload_n hx hb d_Met_stepsTo_1 rfl (lv_at hl 2 rfl) ?_
  refine vp_callSi (va_Run.run (va_runV (As := [.int (nI i)]) (rest := []) ⟨hx, hb, hml, hown, hts⟩ (c_WL_lengthOf l dC dI cI h1 a1 b1 n1 st i (by omega) hst1) (cwV (C := R_WL) 1 hts (nw_GV (nw_m 241 rfl) (nw_m 101 rfl) (nw_m 102 rfl) (nw_m 12 rfl) (nw_m 103 rfl)) rfl rfl rfl (by decide +kernel) ⟨Nat.le_of_ble_eq_true rfl, Nat.le_of_ble_eq_true rfl⟩) (nw_preV (q0 := 3) (ci := 7) (q := (R_WL, F_WL, 3)) hK hP [3, 5] [1] rfl rfl rfl rfl) rfl rfl hl.1 rfl (lv_room (Nat.le_of_ble_eq_true rfl)) d_Met_stepsTo_2 ⟨Nat.le_of_ble_eq_true rfl, Nat.le_of_ble_eq_true rfl⟩)) (fun r her => ?_)
  subst her
  refine lv_istore hx hb d_Met_stepsTo_5 hl (by decide) rfl (fun ls hl => ?_)
  replace hl : lv_has ls 8 [(4, .int (nI (st (i + 1) - st i))), (0, .ref h), (1, .ref h1), (2, .int (nI i)), (3, .int (nI most))] := hl
  refine lv_iload hx hb d_Met_stepsTo_7 (lv_at hl 0 rfl) ?_
  refine lv_aload_n hx hb d_Met_stepsTo_9 rfl (lv_at hl 1 rfl) ?_
  refine va_get (D := (dC, dI)) (ci := 2) (v := .int (nI n)) (C := R_Met) (T := F_Met) (N := 3) hx hb hts hin_Met hown hK hP 0 rfl rfl 2 (by decide) (hts _ (nw_mc 228 rfl)) (fun _ h9 => h9) rfl d_Met_stepsTo_10 ?_
  refine lv_isub hx hb d_Met_stepsTo_13 ?_
  refine va_mabs hx hb (hml.trans hl.1.symm) hown (hts _ (nw_mc 242 rfl)) (hts _ (nw_mc 243 rfl)) (hts _ (nw_mc 106 rfl)) (hts _ (nw_mc 244 rfl)) (Nat.le_of_ble_eq_true rfl) (Nat.le_of_ble_eq_true rfl) (Nat.le_of_ble_eq_true rfl) (Nat.le_of_ble_eq_true rfl) d_Met_stepsTo_14 ?_
  refine nw_ti (y := nI ((st (i + 1) - st i) - n + (n - (st (i + 1) - st i)))) (nw_iabs (by omega) (by omega)) ?_
  refine lv_iload_n hx hb d_Met_stepsTo_17 rfl (lv_at hl 4 rfl) ?_
  have hgap := nw_D_gap (fun k => C (st i + k)) y ((st (i + 1) - st i) + n + 1) (st (i + 1) - st i) n (by omega)
  refine lv_icmp_le hx hb d_Met_stepsTo_18 (tgt := 23) (by decide) (fun g1 => ?_) (fun g1 => ?_)
  · rw [nI_leI (by omega) (by omega)] at g1
    refine lv_iconst (v := nI 0) hx hb d_Met_stepsTo_23 (by decide) ?_
    refine lv_istore hx hb d_Met_stepsTo_24 hl (by decide) rfl (fun ls hl => ?_)
    replace hl : lv_has ls 8 [(5, .int (nI 0)), (4, .int (nI (st (i + 1) - st i))), (0, .ref h), (1, .ref h1), (2, .int (nI i)), (3, .int (nI most))] := hl
    refine lv_iconst (v := nI 1) hx hb d_Met_stepsTo_26 (by decide) ?_
    refine lv_istore hx hb d_Met_stepsTo_27 hl (by decide) rfl (fun ls hl => ?_)
    replace hl : lv_has ls 8 [(6, .int (nI 1)), (5, .int (nI 0)), (4, .int (nI (st (i + 1) - st i))), (0, .ref h), (1, .ref h1), (2, .int (nI i)), (3, .int (nI most))] := hl
    refine nw_loopW (σ := Nat × Nat × (Nat → Nat → Nat)) (fun x => match x with | (k, la, M1) => 1 ≤ k ∧ k ≤ (st (i + 1) - st i) + 1 ∧ (∀ d, d ≤ 3 → M1 0 d = 2 ^ (d + 1) - 1) ∧ (∀ j, j < k → ∀ d, d ≤ most → nw_RW (fun k => C (st i + k)) y n j d (M1 j d)) ∧ la < 127 ∧ (2 ≤ k → la = C (st i + (k - 2)))) (fun x => match x with | (k, la, M1) => [(6, .int (nI k)), (5, .int (nI la)), (4, .int (nI (st (i + 1) - st i))), (3, .int (nI most)), (2, .int (nI i)), (1, .ref h1), (0, .ref h)]) (fun x => match x with | (k, la, M1) => ([(h, .inr (2, [.ref aP, .ref aR, .int (nI n)])), (aP, nw_al cJ 127 P), (aR, nw_ar cG 61 (fun k => some (ry k))), (h1, .inr (7, [.ref a1, .ref b1, .int (nI n1)])), (a1, nw_ai cB 12000 C), (b1, nw_ai cI 1001 st)] ++ (nw_rl 61 cJ 4 ry M1 ++ pl))) (fun x => match x with | (k, la, M1) => (st (i + 1) - st i) + 1 - k) (fun x hI ih ls H locs hl hP hD hS => ?_) (1, 0, M) (⟨Nat.le_refl _, by omega, hM0, fun j hj d hd => by
      rw [show j = 0 by omega, hM0 d (by omega)]; exact nw_RW_0 (by omega), by decide, fun h => absurd h (by decide)⟩) (lv_sub hl [0, 1, 2, 6, 5, 4, 3] rfl) hP hD hS
    obtain ⟨k, la, M1⟩ := x
    replace hI : 1 ≤ k ∧ k ≤ (st (i + 1) - st i) + 1 ∧ (∀ d, d ≤ 3 → M1 0 d = 2 ^ (d + 1) - 1) ∧ (∀ j, j < k → ∀ d, d ≤ most → nw_RW (fun k => C (st i + k)) y n j d (M1 j d)) ∧ la < 127 ∧ (2 ≤ k → la = C (st i + (k - 2))) := hI
    replace hl : lv_has ls 8 [(6, .int (nI k)), (5, .int (nI la)), (4, .int (nI (st (i + 1) - st i))), (3, .int (nI most)), (2, .int (nI i)), (1, .ref h1), (0, .ref h)] := hl
    replace hP : va_P (dC, dI) nw_cls ([(h, .inr (2, [.ref aP, .ref aR, .int (nI n)])), (aP, nw_al cJ 127 P), (aR, nw_ar cG 61 (fun k => some (ry k))), (h1, .inr (7, [.ref a1, .ref b1, .int (nI n1)])), (a1, nw_ai cB 12000 C), (b1, nw_ai cI 1001 st)] ++ (nw_rl 61 cJ 4 ry M1 ++ pl)) H := hP
    replace hD : va_D A ([(h, .inr (2, [.ref aP, .ref aR, .int (nI n)])), (aP, nw_al cJ 127 P), (aR, nw_ar cG 61 (fun k => some (ry k))), (h1, .inr (7, [.ref a1, .ref b1, .int (nI n1)])), (a1, nw_ai cB 12000 C), (b1, nw_ai cI 1001 st)] ++ (nw_rl 61 cJ 4 ry M1 ++ pl)) := hD
    obtain ⟨hk1, hk2, hM0, hRW, hla, hla2⟩ := hI
    refine lv_iload hx hb d_Met_stepsTo_29 (lv_at hl 0 rfl) ?_
    refine lv_iload hx hb d_Met_stepsTo_31 (lv_at hl 2 rfl) ?_
    refine lv_icmp_gt hx hb d_Met_stepsTo_33 (tgt := 94) (by decide) (fun g2 => ?_) (fun g2 => ?_)
    · rw [nI_ltI (by omega) (by omega)] at g2
      refine lv_aload_n hx hb d_Met_stepsTo_94 rfl (lv_at hl 6 rfl) ?_
      refine lv_aload_n hx hb d_Met_stepsTo_95 rfl (lv_at hl 6 rfl) ?_
      refine va_get (D := (dC, dI)) (ci := 2) (v := .ref aR) (C := R_Met) (T := F_Met) (N := 3) hx hb hts hin_Met hown hK hP 0 rfl rfl 1 (by decide) (hts _ (nw_mc 227 rfl)) (fun _ h9 => h9) rfl d_Met_stepsTo_96 ?_
      refine lv_iload hx hb d_Met_stepsTo_99 (lv_at hl 2 rfl) ?_
      refine nw_aald hx hb hK hP 2 2 rfl rfl (k := (st (i + 1) - st i)) (by omega) (by decide) rfl d_Met_stepsTo_101 ?_
      refine lv_iload_n hx hb d_Met_stepsTo_102 rfl (lv_at hl 3 rfl) ?_
      have hkl : k = (st (i + 1) - st i) + 1 := by omega
      have hRL := hRW (st (i + 1) - st i) (by omega)
      have hP9 := nw_Prow (k := (st (i + 1) - st i)) (wc := [(h, .inr (2, [.ref aP, .ref aR, .int (nI n)]))]) hP [0] rfl (by omega)
      refine vp_callSi (va_Run.run (va_runV (As := [.ref (ry (st (i + 1) - st i)), .int (nI most)]) (rest := []) ⟨hx, hb, hml, hown, hts⟩ (c_Met_least l dC dI cJ h aP aR n (ry (st (i + 1) - st i)) (M1 (st (i + 1) - st i)) most (nw_D (fun k => C (st i + k)) y (st (i + 1) - st i) n) hn hm (fun d hd => ⟨(hRL d hd).1, (hRL d hd).2 n (Nat.le_refl _)⟩)) (cwV (C := R_Met) 2 hts (nw_GV (nw_m 253 rfl) (nw_m 254 rfl) (nw_m 255 rfl) (nw_m 30 rfl) (nw_m 256 rfl)) rfl rfl rfl (by decide +kernel) ⟨Nat.le_of_ble_eq_true rfl, Nat.le_of_ble_eq_true rfl⟩) (nw_preV (q0 := 0) (ci := 2) (q := (R_Met, F_Met, 3)) hK hP9 [0, 1] [3] rfl rfl rfl rfl) rfl rfl hl.1 rfl (lv_room (Nat.le_of_ble_eq_true rfl)) d_Met_stepsTo_103 ⟨Nat.le_of_ble_eq_true rfl, Nat.le_of_ble_eq_true rfl⟩)) (fun r her => ?_)
      subst her
      exact W.iret (v := nw_sr (nw_D (fun k => C (st i + k)) y (st (i + 1) - st i) n) most) hx hb hr (fun t ht hW => ⟨⟨_, M1, rfl, ⟨rfl, hM0⟩, by rw [ht]; exact hP, hD⟩, hS.F ht⟩) hS.2.2 d_Met_stepsTo_106
    · rw [nI_ltI (by omega) (by omega)] at g2
      refine lv_aload_n hx hb d_Met_stepsTo_36 rfl (lv_at hl 5 rfl) ?_
      refine lv_iload_n hx hb d_Met_stepsTo_37 rfl (lv_at hl 4 rfl) ?_
      refine lv_iload hx hb d_Met_stepsTo_38 (lv_at hl 0 rfl) ?_
      refine lv_iconst (v := nI 1) hx hb d_Met_stepsTo_40 (by decide) ?_
      refine lv_isub hx hb d_Met_stepsTo_41 ?_
      refine nw_ti (pk_sub (a := k) (b := 1) (by omega)) ?_
      refine vp_callSi (va_Run.run (va_runV (As := [.int (nI i), .int (nI (k - 1))]) (rest := []) ⟨hx, hb, hml, hown, hts⟩ (c_WL_at l dC dI cB cI h1 a1 b1 n1 C st i (k - 1) (by omega) (by omega)) (cwV (C := R_WL) 2 hts (nw_GV (nw_m 245 rfl) (nw_m 246 rfl) (nw_m 247 rfl) (nw_m 12 rfl) (nw_m 248 rfl)) rfl rfl rfl (by decide +kernel) ⟨Nat.le_of_ble_eq_true rfl, Nat.le_of_ble_eq_true rfl⟩) (nw_preV (q0 := 3) (ci := 7) (q := (R_WL, F_WL, 3)) hK hP [3, 4, 5] [0, 1] rfl rfl rfl rfl) rfl rfl hl.1 rfl (lv_room (Nat.le_of_ble_eq_true rfl)) d_Met_stepsTo_42 ⟨Nat.le_of_ble_eq_true rfl, Nat.le_of_ble_eq_true rfl⟩)) (fun r her => ?_)
      subst her
      have hck := hC (st i + (k - 1))
      refine lv_istore hx hb d_Met_stepsTo_45 hl (by decide) rfl (fun ls hl => ?_)
      replace hl : lv_has ls 8 [(7, .int (nI (C (st i + (k - 1))))), (6, .int (nI k)), (5, .int (nI la)), (4, .int (nI (st (i + 1) - st i))), (3, .int (nI most)), (2, .int (nI i)), (1, .ref h1), (0, .ref h)] := hl
      refine lv_aload_n hx hb d_Met_stepsTo_47 rfl (lv_at hl 7 rfl) ?_
      refine lv_iload hx hb d_Met_stepsTo_48 (lv_at hl 1 rfl) ?_
      refine lv_aload_n hx hb d_Met_stepsTo_50 rfl (lv_at hl 7 rfl) ?_
      refine va_get (D := (dC, dI)) (ci := 2) (v := .ref aP) (C := R_Met) (T := F_Met) (N := 3) hx hb hts hin_Met hown hK hP 0 rfl rfl 0 (by decide) (hts _ (nw_mc 226 rfl)) (fun _ h9 => h9) rfl d_Met_stepsTo_51 ?_
      refine lv_iload hx hb d_Met_stepsTo_54 (lv_at hl 0 rfl) ?_
      refine nw_lald hx hb hK hP 1 3 rfl rfl (k := (C (st i + (k - 1)))) (by omega) (by first | decide | omega) d_Met_stepsTo_56 ?_
      refine lv_aload_n hx hb d_Met_stepsTo_57 rfl (lv_at hl 7 rfl) ?_
      refine va_get (D := (dC, dI)) (ci := 2) (v := .ref aP) (C := R_Met) (T := F_Met) (N := 3) hx hb hts hin_Met hown hK hP 0 rfl rfl 0 (by decide) (hts _ (nw_mc 226 rfl)) (fun _ h9 => h9) rfl d_Met_stepsTo_58 ?_
      refine lv_iload hx hb d_Met_stepsTo_61 (lv_at hl 2 rfl) ?_
      refine nw_lald hx hb hK hP 1 3 rfl rfl (k := la) (by omega) (by first | decide | omega) d_Met_stepsTo_63 ?_
      refine lv_iload_n hx hb d_Met_stepsTo_64 rfl (lv_at hl 4 rfl) ?_
      refine nw_callvP (wc := [(h, .inr (2, [.ref aP, .ref aR, .int (nI n)])), (aR, nw_ar cG 61 (fun k => some (ry k)))]) (wr := [(aP, nw_al cJ 127 P), (h1, .inr (7, [.ref a1, .ref b1, .int (nI n1)])), (a1, nw_ai cB 12000 C), (b1, nw_ai cI 1001 st)]) hP hD hS hA [0, 2] [1, 3, 4, 5] rfl rfl (by decide) (by decide) (va_runV (As := [.int (nI k), .long (lN (P (C (st i + (k - 1))))), .long (lN (P la)), .int (nI most)]) (rest := []) ⟨hx, hb, hml, hown, hts⟩ (c_Met_extend l dC dI _ cG cJ h aP aR n ry M1 pl k (P (C (st i + (k - 1)))) (P la) most (fun k => C (st i + k)) y hn ⟨hk1, by omega⟩ hm (hPL _ hck) (hPL _ hla).1 (hRW (k - 1) (by omega)) (fun h2 => ⟨by have := hPL _ hla; rw [hla2 h2] at this ⊢; exact this, hRW (k - 2) (by omega)⟩)) (cwV (C := R_Met) 4 hts (nw_GV (nw_m 249 rfl) (nw_m 250 rfl) (nw_m 251 rfl) (nw_m 30 rfl) (nw_m 252 rfl)) rfl rfl rfl (by decide +kernel) ⟨Nat.le_of_ble_eq_true rfl, Nat.le_of_ble_eq_true rfl⟩) (nw_prewVP (q0 := 0) (ci := 2) (q := (R_Met, F_Met, 3)) hK hP hD [0, 2] [2, 3] (by decide) rfl rfl rfl rfl) rfl rfl hl.1 rfl (lv_room (Nat.le_of_ble_eq_true rfl)) d_Met_stepsTo_65 ⟨Nat.le_of_ble_eq_true rfl, Nat.le_of_ble_eq_true rfl⟩) (fun u H locs hw hP hD hS => ?_)
      replace hP : va_P (dC, dI) nw_cls ([(aP, nw_al cJ 127 P), (h1, .inr (7, [.ref a1, .ref b1, .int (nI n1)])), (a1, nw_ai cB 12000 C), (b1, nw_ai cI 1001 st), (h, .inr (2, [.ref aP, .ref aR, .int (nI n)])), (aR, nw_ar cG 61 (fun k => some (ry k)))] ++ (nw_rl 61 cJ 4 ry (va_up M1 k u) ++ pl)) H := hP
      replace hD : va_D A ([(aP, nw_al cJ 127 P), (h1, .inr (7, [.ref a1, .ref b1, .int (nI n1)])), (a1, nw_ai cB 12000 C), (b1, nw_ai cI 1001 st), (h, .inr (2, [.ref aP, .ref aR, .int (nI n)])), (aR, nw_ar cG 61 (fun k => some (ry k)))] ++ (nw_rl 61 cJ 4 ry (va_up M1 k u) ++ pl)) := hD
      have hP := hP.part (cx := [(h, .inr (2, [.ref aP, .ref aR, .int (nI n)])), (aP, nw_al cJ 127 P), (aR, nw_ar cG 61 (fun k => some (ry k))), (h1, .inr (7, [.ref a1, .ref b1, .int (nI n1)])), (a1, nw_ai cB 12000 C), (b1, nw_ai cI 1001 st)]) [4, 0, 5, 1, 2, 3] rfl
      have hD := hD.part (cx := [(h, .inr (2, [.ref aP, .ref aR, .int (nI n)])), (aP, nw_al cJ 127 P), (aR, nw_ar cG 61 (fun k => some (ry k))), (h1, .inr (7, [.ref a1, .ref b1, .int (nI n1)])), (a1, nw_ai cB 12000 C), (b1, nw_ai cI 1001 st)]) [4, 0, 5, 1, 2, 3] (by decide) rfl
      refine lv_aload_n hx hb d_Met_stepsTo_68 rfl (lv_at hl 7 rfl) ?_
      refine va_get (D := (dC, dI)) (ci := 2) (v := .ref aR) (C := R_Met) (T := F_Met) (N := 3) hx hb hts hin_Met hown hK hP 0 rfl rfl 1 (by decide) (hts _ (nw_mc 227 rfl)) (fun _ h9 => h9) rfl d_Met_stepsTo_69 ?_
      refine lv_iload hx hb d_Met_stepsTo_72 (lv_at hl 1 rfl) ?_
      refine nw_aald hx hb hK hP 2 2 rfl rfl (k := k) (by omega) (by decide) rfl d_Met_stepsTo_74 ?_
      refine lv_iload_n hx hb d_Met_stepsTo_75 rfl (lv_at hl 4 rfl) ?_
      refine nw_rlld hx hb hK (k := k) (d := most) hP 3 rfl (by omega) (by omega) (by decide) d_Met_stepsTo_76 ?_
      refine nw_tl (y := lN (u most)) (congrArg lN (by rw [va_up_self])) ?_
      refine lv_lconst (v := lN 0) hx hb d_Met_stepsTo_77 (by decide) ?_
      refine W.lcmp hx hb d_Met_stepsTo_78 ?_
      have hum := hw most (Nat.le_refl _)
      have hz3 : ∀ d, d ≤ 3 → va_up M1 k u 0 d = 2 ^ (d + 1) - 1 := fun d hd => by rw [va_up_ne _ _ (by omega)]; exact hM0 d hd
      refine lv_if_ne hx hb d_Met_stepsTo_79 (tgt := 84) (by decide) (fun g3 => ?_) (fun g3 => ?_)
      · rw [nw_lc (nw_s64 hum.1)] at g3
        refine lv_iload hx hb d_Met_stepsTo_84 (lv_at hl 0 rfl) ?_
        refine lv_istore hx hb d_Met_stepsTo_86 hl (by decide) rfl (fun ls hl => ?_)
        replace hl : lv_has ls 8 [(5, .int (nI (C (st i + (k - 1))))), (7, .int (nI (C (st i + (k - 1))))), (6, .int (nI k)), (4, .int (nI (st (i + 1) - st i))), (3, .int (nI most)), (2, .int (nI i)), (1, .ref h1), (0, .ref h)] := hl
        refine lv_iinc (v := nI (k + 1)) hx hb d_Met_stepsTo_88 hl (k := 2) rfl (nI_add k 1) (by decide) rfl (fun ls hl => ?_)
        have hl : lv_has ls 8 [(6, .int (nI (k + 1))), (5, .int (nI (C (st i + (k - 1))))), (7, .int (nI (C (st i + (k - 1))))), (4, .int (nI (st (i + 1) - st i))), (3, .int (nI most)), (2, .int (nI i)), (1, .ref h1), (0, .ref h)] := hl
        refine lv_goto hx hb d_Met_stepsTo_91 (tgt := 29) (by decide) ?_
        exact ih (k + 1, C (st i + (k - 1)), va_up M1 k u) (⟨by omega, by omega, hz3, fun j hj d hd => by
          by_cases e : j = k
          · rw [e, va_up_self]; exact hw d hd
          · rw [va_up_ne _ _ e]; exact hRW j (by omega) d hd, hck, fun _ => by rw [show k + 1 - 2 = k - 1 by omega]⟩) (show (st (i + 1) - st i) + 1 - (k + 1) < (st (i + 1) - st i) + 1 - k by omega) _ _ _ (lv_sub hl [0, 1, 3, 4, 5, 6, 7] rfl) hP hD hS
      · rw [nw_lc (nw_s64 hum.1)] at g3
        have hdead := nw_D_dead (fun k => C (st i + k)) y (k := k) (b := most) (n := n) (fun p hp => by
          have q9 := hum.2 p hp
          rw [g3, Nat.zero_testBit] at q9
          have := of_decide_eq_false q9.symm
          omega) (st (i + 1) - st i) (by omega) n (Nat.le_refl _)
        refine lv_iconst (v := (-1)) hx hb d_Met_stepsTo_82 (by decide) ?_
        exact W.iret (v := (-1)) hx hb hr (fun t ht hW => ⟨⟨_, (va_up M1 k u), rfl, ⟨by unfold nw_sr; rw [if_neg (by omega)], hz3⟩, by rw [ht]; exact hP, hD⟩, hS.F ht⟩) hS.2.2 d_Met_stepsTo_83
  · rw [nI_leI (by omega) (by omega)] at g1
    refine lv_iconst (v := (-1)) hx hb d_Met_stepsTo_21 (by decide) ?_
    exact W.iret (v := (-1)) hx hb hr (fun t ht hW => ⟨⟨_, M, rfl, ⟨by unfold nw_sr; rw [if_neg (by omega)], hM0⟩, by rw [ht]; exact hP, hD⟩, hS.F ht⟩) hS.2.2 d_Met_stepsTo_22
