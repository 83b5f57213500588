set_option maxHeartbeats 4000000 in
set_option maxRecDepth 100000 in
theorem c_Arr_fillJ (l : Launch) (dC : Nat → ClassId) (dI : Nat → Nat → Nat) (sz : Nat) (cJ : ClassId) (a n : Nat) (f : Nat → Nat) (v : Nat) (hn : n < 2 ^ 30) : Met l y_Arr_fillJ w_Arr_fillJ ({ frames := 0, cells := 0, slots := 0, locals := 0 }) (nw_Pw [.ref a, .long (lN v)] (dC, dI) nw_cls [(cJ, .long)] [(a, nw_al cJ n f)] sz) (va_Qv (fun _ : Unit => True) (nw_B (dC, dI) nw_cls (va_A [(a, nw_al cJ n f)] sz) (fun _ : Unit => [(a, nw_al cJ n (nw_fl n v f))])) (va_A [(a, nw_al cJ n f)] sz)) 0 0 (va_A [(a, nw_al cJ n f)] sz) := by
  refine Met.ofW (cc := b_Arr_fillJ) (maxL := 5) (ret := none) (by decide) rfl ?_
  intro p e s m args below meth cd s₁ B hml hv0
  obtain ⟨rfl, hsz, hP, hK, hD0⟩ := hv0
  have hx := B.exec
  have hb := B.bytes
  have hr := B.returns
  have hts := atoms_spec (ws := w_Arr_fillJ) B.pre
  have hown : s.vm.findClass R_Arr = some m.cls := findClass_of_methodNamed B.named
  have hlocks := B.notSynchronized
  subst hsz
  have hD := hD0.self (sz := s.heap.size)
  generalize hAe : va_A [(a, nw_al cJ n f)] s.heap.size = A at hD ⊢
  have hA : ∀ q : Nat, s.heap.size ≤ q → A q := fun q h => by rw [← hAe]; exact Or.inr h
  have hS : va_S A s.heap s.heap [] := va_S.rf
  have hl := lv_entry ([.ref a, .long (lN v)]) (n := 5) (Nat.le_of_ble_eq_true rfl)
  rw [lg_entry_eq]
  generalize (lg_sl ([.ref a, .long (lN v)]) ++ List.replicate (5 - (lg_sl ([.ref a, .long (lN v)])).length) Slot.unset).toArray = ls at hl ⊢
  have hl : lv_has ls 5 [(0, .ref a), (1, .long (lN v))] := hl
  refine lv_iconst (v := nI 0) hx hb d_Arr_fillJ_0 (by decide) ?_
  refine lv_istore_n hx hb d_Arr_fillJ_1 rfl hl (by decide) rfl (fun ls hl => ?_)
  replace hl : lv_has ls 5 [(3, .int (nI 0)), (0, .ref a), (1, .long (lN v))] := hl
  refine lv_aload_n hx hb d_Arr_fillJ_2 rfl (lv_at hl 1 rfl) ?_
  refine va_alen hx hb hK hP 0 0 rfl rfl (v := nI n) rfl d_Arr_fillJ_3 ?_
  refine lv_istore hx hb d_Arr_fillJ_4 hl (by decide) rfl (fun ls hl => ?_)
  replace hl : lv_has ls 5 [(4, .int (nI n)), (3, .int (nI 0)), (0, .ref a), (1, .long (lN v))] := hl
  refine nw_loopW (σ := Nat × (Nat → Nat)) (fun x => match x with | (i, g) => i ≤ n ∧ ∀ x, g x = if x < i then v else f x) (fun x => match x with | (i, g) => [(3, .int (nI i)), (4, .int (nI n)), (0, .ref a), (1, .long (lN v))]) (fun x => match x with | (i, g) => [(a, nw_al cJ n g)]) (fun x => match x with | (i, g) => n - i) (fun x hI ih ls H locs hl hP hD hS => ?_) (0, f) (⟨Nat.zero_le _, fun x => by rw [if_neg (Nat.not_lt_zero x)]⟩) (lv_sub hl [1, 0, 2, 3] rfl) hP hD hS
  obtain ⟨i, g⟩ := x
  replace hI : i ≤ n ∧ ∀ x, g x = if x < i then v else f x := hI
  replace hl : lv_has ls 5 [(3, .int (nI i)), (4, .int (nI n)), (0, .ref a), (1, .long (lN v))] := hl
  replace hP : va_P (dC, dI) nw_cls [(a, nw_al cJ n g)] H := hP
  replace hD : va_D A [(a, nw_al cJ n g)] := hD
  obtain ⟨hi, hg⟩ := hI
  refine lv_iload_n hx hb d_Arr_fillJ_6 rfl (lv_at hl 0 rfl) ?_
  refine lv_iload hx hb d_Arr_fillJ_7 (lv_at hl 1 rfl) ?_
  refine lv_icmp_ge hx hb d_Arr_fillJ_9 (tgt := 22) (by decide) (fun q1 => ?_) (fun q1 => ?_)
  · rw [nI_leI (by omega) (by omega)] at q1
    obtain rfl : g = nw_fl n v f := funext fun x => by rw [hg x, show i = n by omega]; rfl
    replace hP : va_P (dC, dI) nw_cls [(a, nw_al cJ n (nw_fl n v f))] H := hP
    replace hD : va_D A [(a, nw_al cJ n (nw_fl n v f))] := hD
    exact W.vret hx hb hr (fun t ht hW => ⟨⟨(), rfl, trivial, by rw [ht]; exact hP, hD⟩, hS.F ht⟩) hS.2.2 d_Arr_fillJ_22
  · rw [nI_leI (by omega) (by omega)] at q1
    refine lv_aload_n hx hb d_Arr_fillJ_12 rfl (lv_at hl 2 rfl) ?_
    refine lv_iload_n hx hb d_Arr_fillJ_13 rfl (lv_at hl 0 rfl) ?_
    refine lv_lload_n hx hb d_Arr_fillJ_14 rfl (lv_at hl 3 rfl) ?_
    refine nw_last hx hb hK hP hD hS 0 0 rfl rfl (k := i) (v := v) (by omega) (by first | decide | omega) d_Arr_fillJ_15 (fun H locs hP hD hS => ?_)
    replace hP : va_P (dC, dI) nw_cls [(a, nw_al cJ n (va_up g i v))] H := hP
    replace hD : va_D A [(a, nw_al cJ n (va_up g i v))] := hD
    refine lv_iinc (v := nI (i + 1)) hx hb d_Arr_fillJ_16 hl (k := 0) rfl (nI_add i 1) (by decide) rfl (fun ls hl => ?_)
    have hl : lv_has ls 5 [(3, .int (nI (i + 1))), (4, .int (nI n)), (0, .ref a), (1, .long (lN v))] := hl
    refine lv_goto hx hb d_Arr_fillJ_19 (tgt := 6) (by decide) ?_
    exact ih (i + 1, va_up g i v) (⟨by omega, fun x => by
      by_cases e : x = i
      · rw [e, va_up_self, if_pos (by omega)]
      · rw [va_up_ne _ _ e, hg x]
        by_cases h : x < i
        · rw [if_pos h, if_pos (by omega)]
        · rw [if_neg h, if_neg (by omega)]⟩) (show n - (i + 1) < n - i by omega) _ _ _ hl hP hD hS

set_option maxHeartbeats 4000000 in
set_option maxRecDepth 100000 in
theorem c_Arr_fillI (l : Launch) (dC : Nat → ClassId) (dI : Nat → Nat → Nat) (sz : Nat) (cI : ClassId) (a n : Nat) (f : Nat → Nat) (v : Nat) (hn : n < 2 ^ 30) : Met l y_Arr_fillI w_Arr_fillI ({ frames := 0, cells := 0, slots := 0, locals := 0 }) (nw_Pw [.ref a, .int (nI v)] (dC, dI) nw_cls [(cI, .int)] [(a, nw_ai cI n f)] sz) (va_Qv (fun _ : Unit => True) (nw_B (dC, dI) nw_cls (va_A [(a, nw_ai cI n f)] sz) (fun _ : Unit => [(a, nw_ai cI n (nw_fl n v f))])) (va_A [(a, nw_ai cI n f)] sz)) 0 0 (va_A [(a, nw_ai cI n f)] sz) := by
  refine Met.ofW (cc := b_Arr_fillI) (maxL := 4) (ret := none) (by decide) rfl ?_
  intro p e s m args below meth cd s₁ B hml hv0
  obtain ⟨rfl, hsz, hP, hK, hD0⟩ := hv0
  have hx := B.exec
  have hb := B.bytes
  have hr := B.returns
  have hts := atoms_spec (ws := w_Arr_fillI) B.pre
  have hown : s.vm.findClass R_Arr = some m.cls := findClass_of_methodNamed B.named
  have hlocks := B.notSynchronized
  subst hsz
  have hD := hD0.self (sz := s.heap.size)
  generalize hAe : va_A [(a, nw_ai cI n f)] s.heap.size = A at hD ⊢
  have hA : ∀ q : Nat, s.heap.size ≤ q → A q := fun q h => by rw [← hAe]; exact Or.inr h
  have hS : va_S A s.heap s.heap [] := va_S.rf
  have hl := lv_entry ([.ref a, .int (nI v)]) (n := 4) (Nat.le_of_ble_eq_true rfl)
  rw [lg_entry_eq]
  generalize (lg_sl ([.ref a, .int (nI v)]) ++ List.replicate (4 - (lg_sl ([.ref a, .int (nI v)])).length) Slot.unset).toArray = ls at hl ⊢
  have hl : lv_has ls 4 [(0, .ref a), (1, .int (nI v))] := hl
  refine lv_iconst (v := nI 0) hx hb d_Arr_fillI_0 (by decide) ?_
  refine lv_istore_n hx hb d_Arr_fillI_1 rfl hl (by decide) rfl (fun ls hl => ?_)
  replace hl : lv_has ls 4 [(2, .int (nI 0)), (0, .ref a), (1, .int (nI v))] := hl
  refine lv_aload_n hx hb d_Arr_fillI_2 rfl (lv_at hl 1 rfl) ?_
  refine va_alen hx hb hK hP 0 0 rfl rfl (v := nI n) rfl d_Arr_fillI_3 ?_
  refine lv_istore_n hx hb d_Arr_fillI_4 rfl hl (by decide) rfl (fun ls hl => ?_)
  replace hl : lv_has ls 4 [(3, .int (nI n)), (2, .int (nI 0)), (0, .ref a), (1, .int (nI v))] := hl
  refine nw_loopW (σ := Nat × (Nat → Nat)) (fun x => match x with | (i, g) => i ≤ n ∧ ∀ x, g x = if x < i then v else f x) (fun x => match x with | (i, g) => [(2, .int (nI i)), (3, .int (nI n)), (0, .ref a), (1, .int (nI v))]) (fun x => match x with | (i, g) => [(a, nw_ai cI n g)]) (fun x => match x with | (i, g) => n - i) (fun x hI ih ls H locs hl hP hD hS => ?_) (0, f) (⟨Nat.zero_le _, fun x => by rw [if_neg (Nat.not_lt_zero x)]⟩) (lv_sub hl [1, 0, 2, 3] rfl) hP hD hS
  obtain ⟨i, g⟩ := x
  replace hI : i ≤ n ∧ ∀ x, g x = if x < i then v else f x := hI
  replace hl : lv_has ls 4 [(2, .int (nI i)), (3, .int (nI n)), (0, .ref a), (1, .int (nI v))] := hl
  replace hP : va_P (dC, dI) nw_cls [(a, nw_ai cI n g)] H := hP
  replace hD : va_D A [(a, nw_ai cI n g)] := hD
  obtain ⟨hi, hg⟩ := hI
  refine lv_iload_n hx hb d_Arr_fillI_5 rfl (lv_at hl 0 rfl) ?_
  refine lv_iload_n hx hb d_Arr_fillI_6 rfl (lv_at hl 1 rfl) ?_
  refine lv_icmp_ge hx hb d_Arr_fillI_7 (tgt := 20) (by decide) (fun q1 => ?_) (fun q1 => ?_)
  · rw [nI_leI (by omega) (by omega)] at q1
    obtain rfl : g = nw_fl n v f := funext fun x => by rw [hg x, show i = n by omega]; rfl
    replace hP : va_P (dC, dI) nw_cls [(a, nw_ai cI n (nw_fl n v f))] H := hP
    replace hD : va_D A [(a, nw_ai cI n (nw_fl n v f))] := hD
    exact W.vret hx hb hr (fun t ht hW => ⟨⟨(), rfl, trivial, by rw [ht]; exact hP, hD⟩, hS.F ht⟩) hS.2.2 d_Arr_fillI_20
  · rw [nI_leI (by omega) (by omega)] at q1
    refine lv_aload_n hx hb d_Arr_fillI_10 rfl (lv_at hl 2 rfl) ?_
    refine lv_iload_n hx hb d_Arr_fillI_11 rfl (lv_at hl 0 rfl) ?_
    refine lv_iload_n hx hb d_Arr_fillI_12 rfl (lv_at hl 3 rfl) ?_
    refine nw_iast hx hb hK hP hD hS 0 0 rfl rfl (k := i) (v := v) (by omega) (by first | decide | omega) d_Arr_fillI_13 (fun H locs hP hD hS => ?_)
    replace hP : va_P (dC, dI) nw_cls [(a, nw_ai cI n (va_up g i v))] H := hP
    replace hD : va_D A [(a, nw_ai cI n (va_up g i v))] := hD
    refine lv_iinc (v := nI (i + 1)) hx hb d_Arr_fillI_14 hl (k := 0) rfl (nI_add i 1) (by decide) rfl (fun ls hl => ?_)
    have hl : lv_has ls 4 [(2, .int (nI (i + 1))), (3, .int (nI n)), (0, .ref a), (1, .int (nI v))] := hl
    refine lv_goto hx hb d_Arr_fillI_17 (tgt := 5) (by decide) ?_
    exact ih (i + 1, va_up g i v) (⟨by omega, fun x => by
      by_cases e : x = i
      · rw [e, va_up_self, if_pos (by omega)]
      · rw [va_up_ne _ _ e, hg x]
        by_cases h : x < i
        · rw [if_pos h, if_pos (by omega)]
        · rw [if_neg h, if_neg (by omega)]⟩) (show n - (i + 1) < n - i by omega) _ _ _ hl hP hD hS

set_option maxHeartbeats 4000000 in
set_option maxRecDepth 100000 in
theorem c_Row_init (l : Launch) (dC : Nat → ClassId) (dI : Nat → Nat → Nat) (sz : Nat) (cB : ClassId) (h : Nat) : Met l y_Row_init w_Row_init ({ frames := 1, cells := 1, slots := 60, locals := 12 }) (nw_Pw [.ref h] (dC, dI) nw_cls [(cB, .byte)] [(h, .inr (6, [.null, .int (nI 0)]))] sz) (va_Qv (fun _ : Nat => True) (nw_B (dC, dI) nw_cls (va_A [(h, .inr (6, [.null, .int (nI 0)]))] sz) (fun u => [(h, .inr (6, [.ref u, .int (nI 0)])), (u, nw_ai cB 60 (fun _ => 0))])) (va_A [(h, .inr (6, [.null, .int (nI 0)]))] sz)) 1 60 (va_A [(h, .inr (6, [.null, .int (nI 0)]))] sz) := by
  refine Met.ofW (cc := b_Row_init) (maxL := 1) (ret := none) (by decide) rfl ?_
  intro p e s m args below meth cd s₁ B hml hv0
  obtain ⟨rfl, hsz, hP, hK, hD0⟩ := hv0
  have hx := B.exec
  have hb := B.bytes
  have hr := B.returns
  have hts := atoms_spec (ws := w_Row_init) B.pre
  have hown : s.vm.findClass R_Row = some m.cls := findClass_of_methodNamed B.named
  have hlocks := B.notSynchronized
  have hin : meth.name = "<init>" := (name_of_methodNamed B.named B.method).1
  subst hsz
  have hD := hD0.self (sz := s.heap.size)
  generalize hAe : va_A [(h, .inr (6, [.null, .int (nI 0)]))] s.heap.size = A at hD ⊢
  have hA : ∀ q : Nat, s.heap.size ≤ q → A q := fun q h => by rw [← hAe]; exact Or.inr h
  have hS : va_S A s.heap s.heap [] := va_S.rf
  have hl := lv_entry ([.ref h]) (n := 1) (Nat.le_of_ble_eq_true rfl)
  rw [lg_entry_eq]
  generalize (lg_sl ([.ref h]) ++ List.replicate (1 - (lg_sl ([.ref h])).length) Slot.unset).toArray = ls at hl ⊢
  have hl : lv_has ls 1 [(0, .ref h)] := hl
  refine lv_aload_n hx hb d_Row_init_0 rfl (lv_at hl 0 rfl) ?_
  refine W.objInit hx hb hown (hts _ (nw_mc 303 rfl)) (hts _ (nw_mc 1 rfl)) (hts _ (nw_mc 2 rfl)) rfl (by rw [hml]; exact hl.1) rfl d_Row_init_1 (Nat.le_of_ble_eq_true rfl) (Nat.le_of_ble_eq_true rfl) ?_
  refine W.eq (g2 := F0 m 4 ls []) rfl ?_
  refine lv_aload_n hx hb d_Row_init_4 rfl (lv_at hl 0 rfl) ?_
  refine lv_bipush (v := nI 60) hx hb d_Row_init_5 (by decide) ?_
  refine nw_newa (ty := .byte) (a0 := (60, .inl (fun _ => nI 0))) hx hb (hts _ (nw_mc 172 rfl)) rfl hK hP hD hS hA 0 rfl rfl (n := 60) (by decide) (fun _ => rfl) (by decide) (Nat.le_of_ble_eq_true rfl) (Nat.le_of_ble_eq_true rfl) d_Row_init_7 (fun q0 H hP hD hS => ?_)
  replace hP : va_P (dC, dI) nw_cls [(h, .inr (6, [.null, .int (nI 0)])), (q0, nw_ai cB 60 (fun _ => 0))] H := hP
  replace hD : va_D A [(h, .inr (6, [.null, .int (nI 0)])), (q0, nw_ai cB 60 (fun _ => 0))] := hD
  refine va_putF (D := (dC, dI)) (ci := 6) (v := .ref q0) (ty := (.array .byte)) (C := R_Row) (T := F_Row) (N := 2) hx hb hts hin_Row t_Row t_Row_ok n_Row hown hK hP hD hS 0 rfl rfl 0 (by decide) (hts _ (nw_mc 304 rfl)) (fun _ h9 => h9) rfl hin rfl (by decide +kernel) rfl rfl (Nat.le_of_ble_eq_true rfl) d_Row_init_9 (fun H locs hP hD hS => ?_)
  replace hP : va_P (dC, dI) nw_cls [(h, .inr (6, [.ref q0, .int (nI 0)])), (q0, nw_ai cB 60 (fun _ => 0))] H := hP
  replace hD : va_D A [(h, .inr (6, [.ref q0, .int (nI 0)])), (q0, nw_ai cB 60 (fun _ => 0))] := hD
  refine lv_aload_n hx hb d_Row_init_12 rfl (lv_at hl 0 rfl) ?_
  refine lv_iconst (v := nI 0) hx hb d_Row_init_13 (by decide) ?_
  refine va_put (D := (dC, dI)) (ci := 6) (v := .int (nI 0)) (ty := .int) (C := R_Row) (T := F_Row) (N := 2) hx hb hts hin_Row t_Row t_Row_ok n_Row hown hK hP hD hS 0 rfl rfl 1 (by decide) (hts _ (nw_mc 305 rfl)) (fun _ h9 => h9) rfl (by decide +kernel) rfl rfl (Nat.le_of_ble_eq_true rfl) d_Row_init_14 (fun H locs hP hD hS => ?_)
  replace hP : va_P (dC, dI) nw_cls [(h, .inr (6, [.ref q0, .int (nI 0)])), (q0, nw_ai cB 60 (fun _ => 0))] H := hP
  replace hD : va_D A [(h, .inr (6, [.ref q0, .int (nI 0)])), (q0, nw_ai cB 60 (fun _ => 0))] := hD
  refine W.widen (k := 1) (n := 60) (by decide) (by decide) ?_
  exact W.vret hx hb hr (fun t ht hW => ⟨⟨q0, rfl, trivial, by rw [ht]; exact hP, hD⟩, hS.F ht⟩) hS.2.2 d_Row_init_17

set_option maxHeartbeats 4000000 in
set_option maxRecDepth 100000 in
theorem c_WL_init (l : Launch) (dC : Nat → ClassId) (dI : Nat → Nat → Nat) (sz : Nat) (cB cI : ClassId) (h : Nat) : Met l y_WL_init w_WL_init ({ frames := 1, cells := 2, slots := 13001, locals := 12 }) (nw_Pw [.ref h] (dC, dI) nw_cls [(cB, .byte), (cI, .int)] [(h, .inr (7, [.null, .null, .int (nI 0)]))] sz) (va_Qv (fun _ : Nat × Nat => True) (nw_B (dC, dI) nw_cls (va_A [(h, .inr (7, [.null, .null, .int (nI 0)]))] sz) (fun u => [(h, .inr (7, [.ref u.1, .ref u.2, .int (nI 0)])), (u.1, nw_ai cB 12000 (fun _ => 0)), (u.2, nw_ai cI 1001 (fun _ => 0))])) (va_A [(h, .inr (7, [.null, .null, .int (nI 0)]))] sz)) 2 13001 (va_A [(h, .inr (7, [.null, .null, .int (nI 0)]))] sz) := by
  refine Met.ofW (cc := b_WL_init) (maxL := 1) (ret := none) (by decide) rfl ?_
  intro p e s m args below meth cd s₁ B hml hv0
  obtain ⟨rfl, hsz, hP, hK, hD0⟩ := hv0
  have hx := B.exec
  have hb := B.bytes
  have hr := B.returns
  have hts := atoms_spec (ws := w_WL_init) B.pre
  have hown : s.vm.findClass R_WL = some m.cls := findClass_of_methodNamed B.named
  have hlocks := B.notSynchronized
  have hin : meth.name = "<init>" := (name_of_methodNamed B.named B.method).1
  subst hsz
  have hD := hD0.self (sz := s.heap.size)
  generalize hAe : va_A [(h, .inr (7, [.null, .null, .int (nI 0)]))] s.heap.size = A at hD ⊢
  have hA : ∀ q : Nat, s.heap.size ≤ q → A q := fun q h => by rw [← hAe]; exact Or.inr h
  have hS : va_S A s.heap s.heap [] := va_S.rf
  have hl := lv_entry ([.ref h]) (n := 1) (Nat.le_of_ble_eq_true rfl)
  rw [lg_entry_eq]
  generalize (lg_sl ([.ref h]) ++ List.replicate (1 - (lg_sl ([.ref h])).length) Slot.unset).toArray = ls at hl ⊢
  have hl : lv_has ls 1 [(0, .ref h)] := hl
  refine lv_aload_n hx hb d_WL_init_0 rfl (lv_at hl 0 rfl) ?_
  refine W.objInit hx hb hown (hts _ (nw_mc 310 rfl)) (hts _ (nw_mc 1 rfl)) (hts _ (nw_mc 2 rfl)) rfl (by rw [hml]; exact hl.1) rfl d_WL_init_1 (Nat.le_of_ble_eq_true rfl) (Nat.le_of_ble_eq_true rfl) ?_
  refine W.eq (g2 := F0 m 4 ls []) rfl ?_
  refine lv_aload_n hx hb d_WL_init_4 rfl (lv_at hl 0 rfl) ?_
  refine lv_sipush (v := nI 12000) hx hb d_WL_init_5 (by decide) ?_
  refine nw_newa (ty := .byte) (a0 := (12000, .inl (fun _ => nI 0))) hx hb (hts _ (nw_mc 172 rfl)) rfl hK hP hD hS hA 0 rfl rfl (n := 12000) (by decide) (fun _ => rfl) (by decide) (Nat.le_of_ble_eq_true rfl) (Nat.le_of_ble_eq_true rfl) d_WL_init_8 (fun q0 H hP hD hS => ?_)
  replace hP : va_P (dC, dI) nw_cls [(h, .inr (7, [.null, .null, .int (nI 0)])), (q0, nw_ai cB 12000 (fun _ => 0))] H := hP
  replace hD : va_D A [(h, .inr (7, [.null, .null, .int (nI 0)])), (q0, nw_ai cB 12000 (fun _ => 0))] := hD
  refine va_putF (D := (dC, dI)) (ci := 7) (v := .ref q0) (ty := (.array .byte)) (C := R_WL) (T := F_WL) (N := 3) hx hb hts hin_WL t_WL t_WL_ok n_WL hown hK hP hD hS 0 rfl rfl 0 (by decide) (hts _ (nw_mc 311 rfl)) (fun _ h9 => h9) rfl hin rfl (by decide +kernel) rfl rfl (Nat.le_of_ble_eq_true rfl) d_WL_init_10 (fun H locs hP hD hS => ?_)
  replace hP : va_P (dC, dI) nw_cls [(h, .inr (7, [.ref q0, .null, .int (nI 0)])), (q0, nw_ai cB 12000 (fun _ => 0))] H := hP
  replace hD : va_D A [(h, .inr (7, [.ref q0, .null, .int (nI 0)])), (q0, nw_ai cB 12000 (fun _ => 0))] := hD
  refine lv_aload_n hx hb d_WL_init_13 rfl (lv_at hl 0 rfl) ?_
  refine lv_sipush (v := nI 1001) hx hb d_WL_init_14 (by decide) ?_
  refine nw_newa (ty := .int) (a0 := (1001, .inl (fun _ => nI 0))) hx hb (hts _ (nw_mc 177 rfl)) rfl hK hP hD hS hA 1 rfl rfl (n := 1001) (by decide) (fun _ => rfl) (by decide) (Nat.le_of_ble_eq_true rfl) (Nat.le_of_ble_eq_true rfl) d_WL_init_17 (fun q1 H hP hD hS => ?_)
  replace hP : va_P (dC, dI) nw_cls [(h, .inr (7, [.ref q0, .null, .int (nI 0)])), (q0, nw_ai cB 12000 (fun _ => 0)), (q1, nw_ai cI 1001 (fun _ => 0))] H := hP
  replace hD : va_D A [(h, .inr (7, [.ref q0, .null, .int (nI 0)])), (q0, nw_ai cB 12000 (fun _ => 0)), (q1, nw_ai cI 1001 (fun _ => 0))] := hD
  refine va_putF (D := (dC, dI)) (ci := 7) (v := .ref q1) (ty := (.array .int)) (C := R_WL) (T := F_WL) (N := 3) hx hb hts hin_WL t_WL t_WL_ok n_WL hown hK hP hD hS 0 rfl rfl 1 (by decide) (hts _ (nw_mc 312 rfl)) (fun _ h9 => h9) rfl hin rfl (by decide +kernel) rfl rfl (Nat.le_of_ble_eq_true rfl) d_WL_init_19 (fun H locs hP hD hS => ?_)
  replace hP : va_P (dC, dI) nw_cls [(h, .inr (7, [.ref q0, .ref q1, .int (nI 0)])), (q0, nw_ai cB 12000 (fun _ => 0)), (q1, nw_ai cI 1001 (fun _ => 0))] H := hP
  replace hD : va_D A [(h, .inr (7, [.ref q0, .ref q1, .int (nI 0)])), (q0, nw_ai cB 12000 (fun _ => 0)), (q1, nw_ai cI 1001 (fun _ => 0))] := hD
  refine lv_aload_n hx hb d_WL_init_22 rfl (lv_at hl 0 rfl) ?_
  refine lv_iconst (v := nI 0) hx hb d_WL_init_23 (by decide) ?_
  refine va_put (D := (dC, dI)) (ci := 7) (v := .int (nI 0)) (ty := .int) (C := R_WL) (T := F_WL) (N := 3) hx hb hts hin_WL t_WL t_WL_ok n_WL hown hK hP hD hS 0 rfl rfl 2 (by decide) (hts _ (nw_mc 313 rfl)) (fun _ h9 => h9) rfl (by decide +kernel) rfl rfl (Nat.le_of_ble_eq_true rfl) d_WL_init_24 (fun H locs hP hD hS => ?_)
  replace hP : va_P (dC, dI) nw_cls [(h, .inr (7, [.ref q0, .ref q1, .int (nI 0)])), (q0, nw_ai cB 12000 (fun _ => 0)), (q1, nw_ai cI 1001 (fun _ => 0))] H := hP
  replace hD : va_D A [(h, .inr (7, [.ref q0, .ref q1, .int (nI 0)])), (q0, nw_ai cB 12000 (fun _ => 0)), (q1, nw_ai cI 1001 (fun _ => 0))] := hD
  refine W.widen (k := 2) (n := 13001) (by decide) (by decide) ?_
  exact W.vret hx hb hr (fun t ht hW => ⟨⟨(q0, q1), rfl, trivial, by rw [ht]; exact hP, hD⟩, hS.F ht⟩) hS.2.2 d_WL_init_27

set_option maxHeartbeats 4000000 in
set_option maxRecDepth 100000 in
theorem c_Pat_init (l : Launch) (dC : Nat → ClassId) (dI : Nat → Nat → Nat) (sz : Nat) (cJ : ClassId) (h : Nat) : Met l y_Pat_init w_Pat_init ({ frames := 1, cells := 1, slots := 127, locals := 12 }) (nw_Pw [.ref h] (dC, dI) nw_cls [(cJ, .long)] [(h, .inr (4, [.null, .long (lN 0), .long (lN 0), .int (nI 0)]))] sz) (va_Qv (fun _ : Nat => True) (nw_B (dC, dI) nw_cls (va_A [(h, .inr (4, [.null, .long (lN 0), .long (lN 0), .int (nI 0)]))] sz) (fun u => [(h, .inr (4, [.ref u, .long (lN 0), .long (lN 0), .int (nI 0)])), (u, nw_al cJ 127 (fun _ => 0))])) (va_A [(h, .inr (4, [.null, .long (lN 0), .long (lN 0), .int (nI 0)]))] sz)) 1 127 (va_A [(h, .inr (4, [.null, .long (lN 0), .long (lN 0), .int (nI 0)]))] sz) := by
  refine Met.ofW (cc := b_Pat_init) (maxL := 1) (ret := none) (by decide) rfl ?_
  intro p e s m args below meth cd s₁ B hml hv0
  obtain ⟨rfl, hsz, hP, hK, hD0⟩ := hv0
  have hx := B.exec
  have hb := B.bytes
  have hr := B.returns
  have hts := atoms_spec (ws := w_Pat_init) B.pre
  have hown : s.vm.findClass R_Pat = some m.cls := findClass_of_methodNamed B.named
  have hlocks := B.notSynchronized
  have hin : meth.name = "<init>" := (name_of_methodNamed B.named B.method).1
  subst hsz
  have hD := hD0.self (sz := s.heap.size)
  generalize hAe : va_A [(h, .inr (4, [.null, .long (lN 0), .long (lN 0), .int (nI 0)]))] s.heap.size = A at hD ⊢
  have hA : ∀ q : Nat, s.heap.size ≤ q → A q := fun q h => by rw [← hAe]; exact Or.inr h
  have hS : va_S A s.heap s.heap [] := va_S.rf
  have hl := lv_entry ([.ref h]) (n := 1) (Nat.le_of_ble_eq_true rfl)
  rw [lg_entry_eq]
  generalize (lg_sl ([.ref h]) ++ List.replicate (1 - (lg_sl ([.ref h])).length) Slot.unset).toArray = ls at hl ⊢
  have hl : lv_has ls 1 [(0, .ref h)] := hl
  refine lv_aload_n hx hb d_Pat_init_0 rfl (lv_at hl 0 rfl) ?_
  refine W.objInit hx hb hown (hts _ (nw_mc 275 rfl)) (hts _ (nw_mc 1 rfl)) (hts _ (nw_mc 2 rfl)) rfl (by rw [hml]; exact hl.1) rfl d_Pat_init_1 (Nat.le_of_ble_eq_true rfl) (Nat.le_of_ble_eq_true rfl) ?_
  refine W.eq (g2 := F0 m 4 ls []) rfl ?_
  refine lv_aload_n hx hb d_Pat_init_4 rfl (lv_at hl 0 rfl) ?_
  refine lv_bipush (v := nI 127) hx hb d_Pat_init_5 (by decide) ?_
  refine nw_newa (ty := .long) (a0 := (127, .inr (.inl (fun _ => lN 0)))) hx hb (hts _ (nw_mc 225 rfl)) rfl hK hP hD hS hA 0 rfl rfl (n := 127) (by decide) (fun _ => rfl) (by decide) (Nat.le_of_ble_eq_true rfl) (Nat.le_of_ble_eq_true rfl) d_Pat_init_7 (fun q0 H hP hD hS => ?_)
  replace hP : va_P (dC, dI) nw_cls [(h, .inr (4, [.null, .long (lN 0), .long (lN 0), .int (nI 0)])), (q0, nw_al cJ 127 (fun _ => 0))] H := hP
  replace hD : va_D A [(h, .inr (4, [.null, .long (lN 0), .long (lN 0), .int (nI 0)])), (q0, nw_al cJ 127 (fun _ => 0))] := hD
  refine va_putF (D := (dC, dI)) (ci := 4) (v := .ref q0) (ty := (.array .long)) (C := R_Pat) (T := F_Pat) (N := 4) hx hb hts hin_Pat t_Pat t_Pat_ok n_Pat hown hK hP hD hS 0 rfl rfl 0 (by decide) (hts _ (nw_mc 276 rfl)) (fun _ h9 => h9) rfl hin rfl (by decide +kernel) rfl rfl (Nat.le_of_ble_eq_true rfl) d_Pat_init_9 (fun H locs hP hD hS => ?_)
  replace hP : va_P (dC, dI) nw_cls [(h, .inr (4, [.ref q0, .long (lN 0), .long (lN 0), .int (nI 0)])), (q0, nw_al cJ 127 (fun _ => 0))] H := hP
  replace hD : va_D A [(h, .inr (4, [.ref q0, .long (lN 0), .long (lN 0), .int (nI 0)])), (q0, nw_al cJ 127 (fun _ => 0))] := hD
  refine lv_aload_n hx hb d_Pat_init_12 rfl (lv_at hl 0 rfl) ?_
  refine lv_lconst (v := lN 0) hx hb d_Pat_init_13 (by decide) ?_
  refine va_put (D := (dC, dI)) (ci := 4) (v := .long (lN 0)) (ty := .long) (C := R_Pat) (T := F_Pat) (N := 4) hx hb hts hin_Pat t_Pat t_Pat_ok n_Pat hown hK hP hD hS 0 rfl rfl 1 (by decide) (hts _ (nw_mc 277 rfl)) (fun _ h9 => h9) rfl (by decide +kernel) rfl rfl (Nat.le_of_ble_eq_true rfl) d_Pat_init_14 (fun H locs hP hD hS => ?_)
  replace hP : va_P (dC, dI) nw_cls [(h, .inr (4, [.ref q0, .long (lN 0), .long (lN 0), .int (nI 0)])), (q0, nw_al cJ 127 (fun _ => 0))] H := hP
  replace hD : va_D A [(h, .inr (4, [.ref q0, .long (lN 0), .long (lN 0), .int (nI 0)])), (q0, nw_al cJ 127 (fun _ => 0))] := hD
  refine lv_aload_n hx hb d_Pat_init_17 rfl (lv_at hl 0 rfl) ?_
  refine lv_lconst (v := lN 0) hx hb d_Pat_init_18 (by decide) ?_
  refine va_put (D := (dC, dI)) (ci := 4) (v := .long (lN 0)) (ty := .long) (C := R_Pat) (T := F_Pat) (N := 4) hx hb hts hin_Pat t_Pat t_Pat_ok n_Pat hown hK hP hD hS 0 rfl rfl 2 (by decide) (hts _ (nw_mc 278 rfl)) (fun _ h9 => h9) rfl (by decide +kernel) rfl rfl (Nat.le_of_ble_eq_true rfl) d_Pat_init_19 (fun H locs hP hD hS => ?_)
  replace hP : va_P (dC, dI) nw_cls [(h, .inr (4, [.ref q0, .long (lN 0), .long (lN 0), .int (nI 0)])), (q0, nw_al cJ 127 (fun _ => 0))] H := hP
  replace hD : va_D A [(h, .inr (4, [.ref q0, .long (lN 0), .long (lN 0), .int (nI 0)])), (q0, nw_al cJ 127 (fun _ => 0))] := hD
  refine lv_aload_n hx hb d_Pat_init_22 rfl (lv_at hl 0 rfl) ?_
  refine lv_iconst (v := nI 0) hx hb d_Pat_init_23 (by decide) ?_
  refine va_put (D := (dC, dI)) (ci := 4) (v := .int (nI 0)) (ty := .int) (C := R_Pat) (T := F_Pat) (N := 4) hx hb hts hin_Pat t_Pat t_Pat_ok n_Pat hown hK hP hD hS 0 rfl rfl 3 (by decide) (hts _ (nw_mc 279 rfl)) (fun _ h9 => h9) rfl (by decide +kernel) rfl rfl (Nat.le_of_ble_eq_true rfl) d_Pat_init_24 (fun H locs hP hD hS => ?_)
  replace hP : va_P (dC, dI) nw_cls [(h, .inr (4, [.ref q0, .long (lN 0), .long (lN 0), .int (nI 0)])), (q0, nw_al cJ 127 (fun _ => 0))] H := hP
  replace hD : va_D A [(h, .inr (4, [.ref q0, .long (lN 0), .long (lN 0), .int (nI 0)])), (q0, nw_al cJ 127 (fun _ => 0))] := hD
  refine W.widen (k := 1) (n := 127) (by decide) (by decide) ?_
  exact W.vret hx hb hr (fun t ht hW => ⟨⟨q0, rfl, trivial, by rw [ht]; exact hP, hD⟩, hS.F ht⟩) hS.2.2 d_Pat_init_27

set_option maxHeartbeats 4000000 in
set_option maxRecDepth 100000 in
theorem c_Near_init (l : Launch) (dC : Nat → ClassId) (dI : Nat → Nat → Nat) (sz : Nat) (cB cI : ClassId) (h : Nat) : Met l y_Near_init w_Near_init ({ frames := 1, cells := 2, slots := 1004, locals := 12 }) (nw_Pw [.ref h] (dC, dI) nw_cls [(cB, .byte), (cI, .int)] [(h, .inr (3, [.null, .null]))] sz) (va_Qv (fun _ : Nat × Nat => True) (nw_B (dC, dI) nw_cls (va_A [(h, .inr (3, [.null, .null]))] sz) (fun u => [(h, .inr (3, [.ref u.1, .ref u.2])), (u.1, nw_ai cB 1000 (fun _ => 0)), (u.2, nw_ai cI 4 (fun _ => 0))])) (va_A [(h, .inr (3, [.null, .null]))] sz)) 2 1004 (va_A [(h, .inr (3, [.null, .null]))] sz) := by
  refine Met.ofW (cc := b_Near_init) (maxL := 1) (ret := none) (by decide) rfl ?_
  intro p e s m args below meth cd s₁ B hml hv0
  obtain ⟨rfl, hsz, hP, hK, hD0⟩ := hv0
  have hx := B.exec
  have hb := B.bytes
  have hr := B.returns
  have hts := atoms_spec (ws := w_Near_init) B.pre
  have hown : s.vm.findClass R_Near = some m.cls := findClass_of_methodNamed B.named
  have hlocks := B.notSynchronized
  have hin : meth.name = "<init>" := (name_of_methodNamed B.named B.method).1
  subst hsz
  have hD := hD0.self (sz := s.heap.size)
  generalize hAe : va_A [(h, .inr (3, [.null, .null]))] s.heap.size = A at hD ⊢
  have hA : ∀ q : Nat, s.heap.size ≤ q → A q := fun q h => by rw [← hAe]; exact Or.inr h
  have hS : va_S A s.heap s.heap [] := va_S.rf
  have hl := lv_entry ([.ref h]) (n := 1) (Nat.le_of_ble_eq_true rfl)
  rw [lg_entry_eq]
  generalize (lg_sl ([.ref h]) ++ List.replicate (1 - (lg_sl ([.ref h])).length) Slot.unset).toArray = ls at hl ⊢
  have hl : lv_has ls 1 [(0, .ref h)] := hl
  refine lv_aload_n hx hb d_Near_init_0 rfl (lv_at hl 0 rfl) ?_
  refine W.objInit hx hb hown (hts _ (nw_mc 261 rfl)) (hts _ (nw_mc 1 rfl)) (hts _ (nw_mc 2 rfl)) rfl (by rw [hml]; exact hl.1) rfl d_Near_init_1 (Nat.le_of_ble_eq_true rfl) (Nat.le_of_ble_eq_true rfl) ?_
  refine W.eq (g2 := F0 m 4 ls []) rfl ?_
  refine lv_aload_n hx hb d_Near_init_4 rfl (lv_at hl 0 rfl) ?_
  refine lv_sipush (v := nI 1000) hx hb d_Near_init_5 (by decide) ?_
  refine nw_newa (ty := .byte) (a0 := (1000, .inl (fun _ => nI 0))) hx hb (hts _ (nw_mc 172 rfl)) rfl hK hP hD hS hA 0 rfl rfl (n := 1000) (by decide) (fun _ => rfl) (by decide) (Nat.le_of_ble_eq_true rfl) (Nat.le_of_ble_eq_true rfl) d_Near_init_8 (fun q0 H hP hD hS => ?_)
  replace hP : va_P (dC, dI) nw_cls [(h, .inr (3, [.null, .null])), (q0, nw_ai cB 1000 (fun _ => 0))] H := hP
  replace hD : va_D A [(h, .inr (3, [.null, .null])), (q0, nw_ai cB 1000 (fun _ => 0))] := hD
  refine va_putF (D := (dC, dI)) (ci := 3) (v := .ref q0) (ty := (.array .byte)) (C := R_Near) (T := F_Near) (N := 2) hx hb hts hin_Near t_Near t_Near_ok n_Near hown hK hP hD hS 0 rfl rfl 0 (by decide) (hts _ (nw_mc 262 rfl)) (fun _ h9 => h9) rfl hin rfl (by decide +kernel) rfl rfl (Nat.le_of_ble_eq_true rfl) d_Near_init_10 (fun H locs hP hD hS => ?_)
  replace hP : va_P (dC, dI) nw_cls [(h, .inr (3, [.ref q0, .null])), (q0, nw_ai cB 1000 (fun _ => 0))] H := hP
  replace hD : va_D A [(h, .inr (3, [.ref q0, .null])), (q0, nw_ai cB 1000 (fun _ => 0))] := hD
  refine lv_aload_n hx hb d_Near_init_13 rfl (lv_at hl 0 rfl) ?_
  refine lv_iconst (v := nI 4) hx hb d_Near_init_14 (by decide) ?_
  refine nw_newa (ty := .int) (a0 := (4, .inl (fun _ => nI 0))) hx hb (hts _ (nw_mc 177 rfl)) rfl hK hP hD hS hA 1 rfl rfl (n := 4) (by decide) (fun _ => rfl) (by decide) (Nat.le_of_ble_eq_true rfl) (Nat.le_of_ble_eq_true rfl) d_Near_init_15 (fun q1 H hP hD hS => ?_)
  replace hP : va_P (dC, dI) nw_cls [(h, .inr (3, [.ref q0, .null])), (q0, nw_ai cB 1000 (fun _ => 0)), (q1, nw_ai cI 4 (fun _ => 0))] H := hP
  replace hD : va_D A [(h, .inr (3, [.ref q0, .null])), (q0, nw_ai cB 1000 (fun _ => 0)), (q1, nw_ai cI 4 (fun _ => 0))] := hD
  refine va_putF (D := (dC, dI)) (ci := 3) (v := .ref q1) (ty := (.array .int)) (C := R_Near) (T := F_Near) (N := 2) hx hb hts hin_Near t_Near t_Near_ok n_Near hown hK hP hD hS 0 rfl rfl 1 (by decide) (hts _ (nw_mc 263 rfl)) (fun _ h9 => h9) rfl hin rfl (by decide +kernel) rfl rfl (Nat.le_of_ble_eq_true rfl) d_Near_init_17 (fun H locs hP hD hS => ?_)
  replace hP : va_P (dC, dI) nw_cls [(h, .inr (3, [.ref q0, .ref q1])), (q0, nw_ai cB 1000 (fun _ => 0)), (q1, nw_ai cI 4 (fun _ => 0))] H := hP
  replace hD : va_D A [(h, .inr (3, [.ref q0, .ref q1])), (q0, nw_ai cB 1000 (fun _ => 0)), (q1, nw_ai cI 4 (fun _ => 0))] := hD
  refine W.widen (k := 2) (n := 1004) (by decide) (by decide) ?_
  exact W.vret hx hb hr (fun t ht hW => ⟨⟨(q0, q1), rfl, trivial, by rw [ht]; exact hP, hD⟩, hS.F ht⟩) hS.2.2 d_Near_init_20
